/-! ===== the class: a ride as a deed; deeds told, drawn ===== -/
theorem CTc.row {m m' : Mem} {c l : Nat} {t : Tr} (h : CTc m c l t) (e : m' c = m c) : CTc m' c l t := by unfold CTc CT; rw [e]; exact h
set_option maxRecDepth 4000 in
theorem l_rideOnce {Γ : Gm} {d : Nat} {m0 : Mem} (g : Row) (n l P : Nat) (t : Tr) (hn : n ∈ nowC) (hl : (l : Int) < g 2) (h2' : g 2 ≤ 3) (h3' : g 3 ≤ 8) (hP : g 3 = P) : ∀ (q k : Nat) (M : Mem), k + q = P → NowR (ridN g l t k) M n → CTc M 67 l t → Fr (sDe n) m0 M → M 33 3 = P → Em Γ (d + 3) MX0_rideOnce (fun r m' => r = 0 ∧ NowR (ridN g l t P) m' n ∧ Fr (sDe n) m0 m') 88 [rv 66, rv n, iv l, iv k] [] M := by
  obtain ⟨nwK, ⟨nwr0, nwr1, nwr2, nwr3, nwr4, nwr5, nwr6⟩, nwK0, nwK1, nwK2, nwK3, nwK4, nwK5, nwK6, nwN⟩ := nowK n hn
  intro q
  induction q with
  | zero =>
    intro k M hk hR hT hF e3
    obtain rfl : k = P := by omega
    refine Ev.iload_n (q := 89) dX0_rideOnce_88 rfl rfl ?_
    refine Ev.aload_n (q := 90) dX0_rideOnce_89 rfl rfl ?_
    refine gR (q := 93) dX0_rideOnce_90 gfX0_18 k66 r66_0 rfl rfl ?_
    refine gI (q := 96) dX0_rideOnce_93 gfX0_77 k33 rfl rfl ?_
    rw [e3]
    refine Ev.icmp_ge (tgt := 141) (q := 99) dX0_rideOnce_96 (by decide) rfl (fun h1 => ?_) (fun h1 => ?_)
    · skip
      refine Ev.iconst (q := 142) dX0_rideOnce_141 ki_0 rfl ?_
      refine rI dX0_rideOnce_142 rfl ?_
      exact ⟨rfl, hR, hF⟩
    · skip
      omega
  | succ q ih =>
    intro k M hk hR hT hF e3
    have hh2 : ridN g l t k 2 ≤ 3 := by rw [ridN_hi (by omega) (by omega) (by omega)]; exact h2'
    have hh3 : ridN g l t k 3 ≤ 8 := by rw [ridN_hi (by omega) (by omega) (by omega)]; exact h3'
    have a7 : M (n + 7) k = g (88 + k) := by rw [(hR.2 k (by rw [ridN_hi (by omega) (by omega) (by omega)]; omega)).2.2, ridN_hi (by omega) (by omega) (by omega)]
    refine Ev.iload_n (q := 89) dX0_rideOnce_88 rfl rfl ?_
    refine Ev.aload_n (q := 90) dX0_rideOnce_89 rfl rfl ?_
    refine gR (q := 93) dX0_rideOnce_90 gfX0_18 k66 r66_0 rfl rfl ?_
    refine gI (q := 96) dX0_rideOnce_93 gfX0_77 k33 rfl rfl ?_
    rw [e3]
    refine Ev.icmp_ge (tgt := 141) (q := 99) dX0_rideOnce_96 (by decide) rfl (fun h1 => ?_) (fun h1 => ?_)
    · skip
      omega
    · skip
      refine Ev.aload_n (q := 100) dX0_rideOnce_99 rfl rfl ?_
      refine gR (q := 103) dX0_rideOnce_100 gfX0_80 nwK nwr6 rfl rfl ?_
      refine Ev.iload_n (q := 104) dX0_rideOnce_103 rfl rfl ?_
      refine aI (q := 105) (k := k) dX0_rideOnce_104 nwK6 (by first | rfl | omega | (simp (disch := omega) only [w32_of]; omega)) (by omega) rfl ?_
      rw [a7]
      refine Ev.iload_n (q := 106) dX0_rideOnce_105 rfl rfl ?_
      refine Ev.icmp_ne (tgt := 135) (q := 109) dX0_rideOnce_106 (by decide) rfl (fun h2 => ?_) (fun h2 => ?_)
      · skip
        refine iinc_3 (q := 138) dX0_rideOnce_135 rfl rfl rfl ?_
        refine Ev.goto (q := 88) dX0_rideOnce_138 (by decide) ?_
        rw [w32_of (by omega) (by omega)]
        exact ih (k + 1) _ (by omega) (by rw [ridN_out (by omega) (by assumption)]; exact hR) hT hF e3
      · skip
        refine Ev.aload_n (q := 110) dX0_rideOnce_109 rfl rfl ?_
        refine gR (q := 113) dX0_rideOnce_110 gfX0_83 nwK nwr4 rfl rfl ?_
        refine Ev.iload_n (q := 114) dX0_rideOnce_113 rfl rfl ?_
        refine Ev.aload_n (q := 115) dX0_rideOnce_114 rfl rfl ?_
        refine gR (q := 118) dX0_rideOnce_115 gfX0_27 k66 r66_1 rfl rfl ?_
        refine gI (q := 121) dX0_rideOnce_118 gfX0_61 k67 rfl rfl ?_
        rw [hT.1.2.1]
        refine sI (q := 122) (k := k) dX0_rideOnce_121 nwK4 (by first | rfl | omega | (simp (disch := omega) only [w32_of]; omega)) (by omega) rfl ?_
        refine Ev.aload_n (q := 123) dX0_rideOnce_122 rfl rfl ?_
        refine gR (q := 126) dX0_rideOnce_123 gfX0_86 nwK nwr5 rfl rfl ?_
        refine Ev.iload_n (q := 127) dX0_rideOnce_126 rfl rfl ?_
        refine Ev.aload_n (q := 128) dX0_rideOnce_127 rfl rfl ?_
        refine gR (q := 131) dX0_rideOnce_128 gfX0_27 k66 r66_1 rfl rfl ?_
        refine gI (q := 134) dX0_rideOnce_131 gfX0_89 k67 rfl rfl ?_
        rw [up_o _ _ (by omega), hT.2]
        refine sI (q := 135) (k := k) dX0_rideOnce_134 nwK5 (by first | rfl | omega | (simp (disch := omega) only [w32_of]; omega)) (by omega) rfl ?_
        refine iinc_3 (q := 138) dX0_rideOnce_135 rfl rfl rfl ?_
        refine Ev.goto (q := 88) dX0_rideOnce_138 (by decide) ?_
        rw [w32_of (by omega) (by omega)]
        refine ih (k + 1) _ (by omega) ?_ (hT.row (by rw [up_na _ _ (by omega), up_na _ _ (by omega)])) ((hF.up (sDe_t (by omega) (by omega))).up (sDe_t (by omega) (by omega))) (by rw [up_o _ _ (by omega), up_o _ _ (by omega)]; exact e3)
        rw [ridN_in (by omega) (by omega) (by assumption)]
        exact NowR_6 (NowR_5 hR hh2 hh3 (by omega) _) (by rw [upg_ne _ _ (by omega)]; exact hh2) (by rw [upg_ne _ _ (by omega)]; exact hh3) (by omega) _
set_option maxRecDepth 4000 in
theorem p_X0_rideOnce {Γ : Gm} {d : Nat} {m : Mem} (g : Row) (n : Nat) (l : Int) (hn : n ∈ nowC) (hI : HI g) (hH : HouR g m 33) (hR : NowR g m n) : Ci Γ (d + 3) MX0_rideOnce [rv 66, rv n, iv l] m (fun r m' => r = whyR g l ∧ NowR (if whyR g l = 0 then doD g 2 l.toNat 0 else g) m' n ∧ Fr (sDe n) m m') := by
  refine Ci.of moX0_rideOnce rfl rfl (fun hA hM => ?_)
  show Em Γ (d + 3) MX0_rideOnce _ 0 [rv 66, rv n, iv l, uv] [] m
  obtain ⟨nwK, ⟨nwr0, nwr1, nwr2, nwr3, nwr4, nwr5, nwr6⟩, nwK0, nwK1, nwK2, nwK3, nwK4, nwK5, nwK6, nwN⟩ := nowK n hn
  obtain ⟨n0, n1, n2, n3⟩ := hH.n0
  have hF12 := hI.1
  have hL3 := hI.2.1
  have hP8 := hI.2.2.1
  refine Ev.aload_n (q := 1) dX0_rideOnce_0 rfl rfl ?_
  refine gR (q := 4) dX0_rideOnce_1 gfX0_18 k66 r66_0 rfl rfl ?_
  refine Ev.iload_n (q := 5) dX0_rideOnce_4 rfl rfl ?_
  refine cV1i (q := 8) (d' := d + 2) dX0_rideOnce_5 mlX0_31 moX1_hasLift mvX1_hasLift k33 rfl rfl rfl (Nat.le_refl _) rfl rfl rfl (p_X1_hasLift l) (fun r1 m1 e1 => ?_)
  obtain ⟨rfl, e1⟩ := e1
  obtain rfl := e1.symm
  rw [n2]
  refine Ev.if_ne (tgt := 13) (q := 11) dX0_rideOnce_8 (by decide) rfl (fun h2 => ?_) (fun h2 => ?_)
  · skip
    have hLL : 0 ≤ l ∧ l < g 2 := by split at h2 <;> omega
    obtain ⟨ln, rfl⟩ : ∃ ln : Nat, l = ln := ⟨l.toNat, by omega⟩
    have hlln : (ln : Int) < g 2 := hLL.2
    have qlln := hI.lift hlln
    obtain ⟨a1ln, a2ln, a3ln, a4ln⟩ := hR.1 ln hlln
    have a3'ln : m (n + 3) ln = ((litV g ln : Nat) : Int) := by rw [a3ln]; unfold litV; have := qlln.2.1.1; omega
    have hsln : litV g ln < 4096 := lt4096 qlln.2.1.2.1 hI.F12
    refine Ev.aload_n (q := 14) dX0_rideOnce_13 rfl rfl ?_
    refine gR (q := 17) dX0_rideOnce_14 gfX0_27 k66 r66_1 rfl rfl ?_
    refine Ev.aload_n (q := 18) dX0_rideOnce_17 rfl rfl ?_
    refine Ev.iload_n (q := 19) dX0_rideOnce_18 rfl rfl ?_
    refine cV2v (q := 22) (d' := d + 2) dX0_rideOnce_19 mlX0_53 moX10_begin mvX10_begin k67 rfl rfl rfl (Nat.le_refl _) rfl rfl rfl (p_X10_begin g 67 n ln (by decide) hn hI hlln hR) (fun r3 m3 e3 => ?_)
    obtain ⟨M1, rfl⟩ : ∃ M1, M1 = m3 := ⟨_, rfl⟩
    obtain ⟨hT1, hF1⟩ := e3
    have hH1 : HouR g M1 33 := hH.keep (fun a h1 h2 => hF1.rowA (by omega))
    have hR1 : NowR g M1 n := hR.keep (fun a h1 h2 => hF1.rowA (by omega))
    refine Ev.aload_n (q := 23) dX0_rideOnce_22 rfl rfl ?_
    refine gR (q := 26) dX0_rideOnce_23 gfX0_27 k66 r66_1 rfl rfl ?_
    refine cV0i (q := 29) (d' := d + 2) dX0_rideOnce_26 mlX0_57 moX10_rideOn mvX10_rideOn k67 rfl rfl rfl (Nat.le_refl _) rfl rfl rfl (p_X10_rideOn g 67 ln _ _ _ _ _ (by decide) hI hlln hH1 hT1.1 (hI.liftOk hlln qlln.2.1.2.1 qlln.2.1.2.2)) (fun r4 m4 e4 => ?_)
    obtain ⟨M2, rfl⟩ : ∃ M2, M2 = m4 := ⟨_, rfl⟩
    obtain ⟨eN, eS⟩ := e4
    refine Ev.if_ne (tgt := 34) (q := 32) dX0_rideOnce_29 (by decide) rfl (fun h5 => ?_) (fun h5 => ?_)
    · skip
      obtain ⟨t', hg⟩ : ∃ t', tgo (g (22 + ln)) (stopV g ln) (liftT g ln) = some t' := by
        cases hg : tgo (g (22 + ln)) (stopV g ln) (liftT g ln) with
        | none => have := (eN hg).1; omega
        | some t' => exact ⟨t', rfl⟩
      obtain ⟨-, hT2, hF2⟩ := eS t' hg
      have hR2 : NowR g M2 n := hR1.keep (fun a h1 h2 => hF2.rowA (by omega))
      have ew : whyR g ln = 0 := by rw [whyR_n hlln, if_neg (fun z => by rw [tgo_zero (show (liftT g ln).2.2.1 = 0 from z)] at hg; cases hg)]
      have ed : doD g 2 ((ln : Nat) : Int).toNat 0 = ridN g ln t' (g 3).toNat := by
        show ridG g ln = _
        unfold ridG
        rw [hg]
      rw [ew, if_pos rfl, ed]
      refine Ev.aload_n (q := 35) dX0_rideOnce_34 rfl rfl ?_
      refine gR (q := 38) dX0_rideOnce_35 gfX0_46 nwK nwr0 rfl rfl ?_
      refine Ev.iload_n (q := 39) dX0_rideOnce_38 rfl rfl ?_
      refine Ev.aload_n (q := 40) dX0_rideOnce_39 rfl rfl ?_
      refine gR (q := 43) dX0_rideOnce_40 gfX0_27 k66 r66_1 rfl rfl ?_
      refine gI (q := 46) dX0_rideOnce_43 gfX0_61 k67 rfl rfl ?_
      rw [hT2.1.2.1]
      refine sI (q := 47) (k := ln) dX0_rideOnce_46 nwK0 (by first | rfl | omega | (simp (disch := omega) only [w32_of]; omega)) (by omega) rfl ?_
      refine Ev.aload_n (q := 48) dX0_rideOnce_47 rfl rfl ?_
      refine gR (q := 51) dX0_rideOnce_48 gfX0_64 nwK nwr1 rfl rfl ?_
      refine Ev.iload_n (q := 52) dX0_rideOnce_51 rfl rfl ?_
      refine Ev.aload_n (q := 53) dX0_rideOnce_52 rfl rfl ?_
      refine gR (q := 56) dX0_rideOnce_53 gfX0_27 k66 r66_1 rfl rfl ?_
      refine gI (q := 59) dX0_rideOnce_56 gfX0_67 k67 rfl rfl ?_
      rw [up_o _ _ (by omega), hT2.1.2.2.1]
      refine sI (q := 60) (k := ln) dX0_rideOnce_59 nwK1 (by first | rfl | omega | (simp (disch := omega) only [w32_of]; omega)) (by omega) rfl ?_
      refine Ev.aload_n (q := 61) dX0_rideOnce_60 rfl rfl ?_
      refine gR (q := 64) dX0_rideOnce_61 gfX0_50 nwK nwr2 rfl rfl ?_
      refine Ev.iload_n (q := 65) dX0_rideOnce_64 rfl rfl ?_
      refine Ev.aload_n (q := 66) dX0_rideOnce_65 rfl rfl ?_
      refine gR (q := 69) dX0_rideOnce_66 gfX0_27 k66 r66_1 rfl rfl ?_
      refine gI (q := 72) dX0_rideOnce_69 gfX0_70 k67 rfl rfl ?_
      rw [up_o _ _ (by omega), up_o _ _ (by omega), hT2.1.2.2.2.1]
      refine sI (q := 73) (k := ln) dX0_rideOnce_72 nwK2 (by first | rfl | omega | (simp (disch := omega) only [w32_of]; omega)) (by omega) rfl ?_
      refine Ev.aload_n (q := 74) dX0_rideOnce_73 rfl rfl ?_
      refine gR (q := 77) dX0_rideOnce_74 gfX0_72 nwK nwr3 rfl rfl ?_
      refine Ev.iload_n (q := 78) dX0_rideOnce_77 rfl rfl ?_
      refine Ev.aload_n (q := 79) dX0_rideOnce_78 rfl rfl ?_
      refine gR (q := 82) dX0_rideOnce_79 gfX0_27 k66 r66_1 rfl rfl ?_
      refine gI (q := 85) dX0_rideOnce_82 gfX0_75 k67 rfl rfl ?_
      rw [up_o _ _ (by omega), up_o _ _ (by omega), up_o _ _ (by omega), hT2.1.2.2.2.2]
      refine sI (q := 86) (k := ln) dX0_rideOnce_85 nwK3 (by first | rfl | omega | (simp (disch := omega) only [w32_of]; omega)) (by omega) rfl ?_
      refine Ev.iconst (q := 87) dX0_rideOnce_86 ki_0 rfl ?_
      refine istore_n_3 (q := 88) dX0_rideOnce_87 rfl rfl rfl ?_
      refine l_rideOnce g n ln (g 3).toNat t' hn hlln hL3.2 hP8.2 (by omega) (g 3).toNat 0 _ (by omega) ?_ (hT2.row (by rw [up_na _ _ (by omega), up_na _ _ (by omega), up_na _ _ (by omega), up_na _ _ (by omega)])) ?_ ?_
      · rw [ridN_0 (by omega)]
        have q1 := NowR_1 hR2 hL3.2 hP8.2 (k := ln) (by omega) (t'.1 : Int)
        have q2 := NowR_2 q1 (by rw [upg_ne _ _ (by omega)]; exact hL3.2) (by rw [upg_ne _ _ (by omega)]; exact hP8.2) (k := ln) (by omega) t'.2.1
        have q3 := NowR_3 q2 (by rw [upg_ne _ _ (by omega), upg_ne _ _ (by omega)]; exact hL3.2) (by rw [upg_ne _ _ (by omega), upg_ne _ _ (by omega)]; exact hP8.2) (k := ln) (by omega) (t'.2.2.1 : Int)
        exact NowR_4 q3 (by rw [upg_ne _ _ (by omega), upg_ne _ _ (by omega), upg_ne _ _ (by omega)]; exact hL3.2) (by rw [upg_ne _ _ (by omega), upg_ne _ _ (by omega), upg_ne _ _ (by omega)]; exact hP8.2) (k := ln) (by omega) _
      · have hF3 : Fr (sDe n) m M2 := hF1.toDe.tr hF2.toDe
        exact (((hF3.up (sDe_t (by omega) (by omega))).up (sDe_t (by omega) (by omega))).up (sDe_t (by omega) (by omega))).up (sDe_t (by omega) (by omega))
      · rw [up_o _ _ (by omega), up_o _ _ (by omega), up_o _ _ (by omega), up_o _ _ (by omega), hF2 33 3 rfl, hF1 33 3 rfl, n3]
        omega
    · skip
      have hg : tgo (g (22 + ln)) (stopV g ln) (liftT g ln) = none := by
        cases hg : tgo (g (22 + ln)) (stopV g ln) (liftT g ln) with
        | none => rfl
        | some t' => have := (eS t' hg).1; omega
      obtain ⟨-, rfl⟩ := eN hg
      refine Ev.iconst (q := 33) dX0_rideOnce_32 ki_2 rfl ?_
      refine rI dX0_rideOnce_33 rfl ?_
      have ew : whyR g ln = 2 := by rw [whyR_n hlln, if_pos (show litV g ln = 0 from tgo_none (hI.lifT hlln) hg)]
      rw [ew]
      exact ⟨rfl, by rw [if_neg (by decide)]; exact hR1, hF1.toDe⟩
  · skip
    have hLL : ¬ (0 ≤ l ∧ l < g 2) := by split at h2 <;> omega
    refine Ev.iconst (q := 12) dX0_rideOnce_11 ki_1 rfl ?_
    refine rI dX0_rideOnce_12 rfl ?_
    rw [whyR_1 (by omega)]
    exact ⟨rfl, by rw [if_neg (by decide)]; exact hR, Fr.rf _ _⟩
/-- a tray: cell c, its row behind it; sort -1: it is missing -/
def TraR (m : Mem) (c : Nat) (sort : Int) (many : Nat) (nm : Nat → Int) : Prop := (sort = -1 → m c 0 = -1) ∧ (¬ sort = -1 → m c 0 = many ∧ m c 1 = sort ∧ (0 ≤ sort ∧ sort ≤ 3) ∧ many ≤ 40 ∧ ∀ i, i < many → m (c + 1) i = nm i)
theorem TraR.keep {m m' : Mem} {c : Nat} {sort : Int} {many : Nat} {nm : Nat → Int} (h : TraR m c sort many nm) (e1 : m' c = m c) (e2 : m' (c + 1) = m (c + 1)) : TraR m' c sort many nm := by unfold TraR; rw [e1, e2]; exact h
set_option maxRecDepth 4000 in
theorem p_X9_isMissing {Γ : Gm} {d : Nat} {m : Mem} (c : Nat) (hc : c ∈ traC) : Ci Γ (d + 0) MX9_isMissing [rv c] m (fun r m' => r = (if m c 0 = -1 then 1 else 0) ∧ m' = m) := by
  refine Ci.of moX9_isMissing rfl rfl (fun hA hM => ?_)
  show Em Γ (d + 0) MX9_isMissing _ 0 [rv c] [] m
  obtain ⟨taK, tar, taK2, taN⟩ := traK c hc
  refine Ev.aload_n (q := 1) dX9_isMissing_0 rfl rfl ?_
  refine gI (q := 4) dX9_isMissing_1 gfX9_9 taK rfl rfl ?_
  refine Ev.iconst (q := 5) dX9_isMissing_4 ki_m1 rfl ?_
  refine Ev.icmp_ne (tgt := 12) (q := 8) dX9_isMissing_5 (by decide) rfl (fun h1 => ?_) (fun h1 => ?_)
  · skip
    refine Ev.iconst (q := 13) dX9_isMissing_12 ki_0 rfl ?_
    refine rZ dX9_isMissing_13 rfl (by decide) ?_
    exact ⟨by split <;> first | rfl | omega, rfl⟩
  · skip
    refine Ev.iconst (q := 9) dX9_isMissing_8 ki_1 rfl ?_
    refine Ev.goto (q := 13) dX9_isMissing_9 (by decide) ?_
    refine rZ dX9_isMissing_13 rfl (by decide) ?_
    exact ⟨by split <;> first | rfl | omega, rfl⟩
set_option maxRecDepth 4000 in
theorem p_X9_has {Γ : Gm} {d : Nat} {m : Mem} (c : Nat) (i : Int) (hc : c ∈ traC) : Ci Γ (d + 0) MX9_has [rv c, iv i] m (fun r m' => r = (if 0 ≤ i ∧ i < m c 0 then 1 else 0) ∧ m' = m) := by
  refine Ci.of moX9_has rfl rfl (fun hA hM => ?_)
  show Em Γ (d + 0) MX9_has _ 0 [rv c, iv i] [] m
  obtain ⟨taK, tar, taK2, taN⟩ := traK c hc
  refine Ev.iload_n (q := 1) dX9_has_0 rfl rfl ?_
  refine Ev.if_lt (tgt := 16) (q := 4) dX9_has_1 (by decide) rfl (fun h1 => ?_) (fun h1 => ?_)
  · skip
    refine Ev.iconst (q := 17) dX9_has_16 ki_0 rfl ?_
    refine rZ dX9_has_17 rfl (by decide) ?_
    exact ⟨by split <;> first | rfl | omega, rfl⟩
  · skip
    refine Ev.iload_n (q := 5) dX9_has_4 rfl rfl ?_
    refine Ev.aload_n (q := 6) dX9_has_5 rfl rfl ?_
    refine gI (q := 9) dX9_has_6 gfX9_9 taK rfl rfl ?_
    refine Ev.icmp_ge (tgt := 16) (q := 12) dX9_has_9 (by decide) rfl (fun h2 => ?_) (fun h2 => ?_)
    · skip
      refine Ev.iconst (q := 17) dX9_has_16 ki_0 rfl ?_
      refine rZ dX9_has_17 rfl (by decide) ?_
      exact ⟨by split <;> first | rfl | omega, rfl⟩
    · skip
      refine Ev.iconst (q := 13) dX9_has_12 ki_1 rfl ?_
      refine Ev.goto (q := 17) dX9_has_13 (by decide) ?_
      refine rZ dX9_has_17 rfl (by decide) ?_
      exact ⟨by split <;> first | rfl | omega, rfl⟩
set_option maxRecDepth 4000 in
theorem p_X9_get {Γ : Gm} {d : Nat} {m : Mem} (c i : Nat) (hc : c ∈ traC) (hi : (i : Int) < m c 0) (hi4 : i < 40) : Ci Γ (d + 1) MX9_get [rv c, iv i] m (fun r m' => r = m (c + 1) i ∧ m' = m) := by
  refine Ci.of moX9_get rfl rfl (fun hA hM => ?_)
  show Em Γ (d + 1) MX9_get _ 0 [rv c, iv i] [] m
  obtain ⟨taK, tar, taK2, taN⟩ := traK c hc
  refine Ev.aload_n (q := 1) dX9_get_0 rfl rfl ?_
  refine Ev.iload_n (q := 2) dX9_get_1 rfl rfl ?_
  refine cV1i (q := 5) (d' := d + 0) dX9_get_2 mlX9_28 moX9_has mvX9_has taK rfl rfl rfl (Nat.le_refl _) rfl rfl rfl (p_X9_has c i hc) (fun r1 m1 e1 => ?_)
  obtain ⟨rfl, e1⟩ := e1
  obtain rfl := e1.symm
  refine Ev.if_eq (tgt := 17) (q := 8) dX9_get_5 (by decide) rfl (fun h2 => ?_) (fun h2 => ?_)
  · skip
    rw [if_pos ⟨by omega, hi⟩] at h2
    exact absurd h2 (by decide)
  · skip
    refine Ev.aload_n (q := 9) dX9_get_8 rfl rfl ?_
    refine gR (q := 12) dX9_get_9 gfX9_18 taK tar rfl rfl ?_
    refine Ev.iload_n (q := 13) dX9_get_12 rfl rfl ?_
    refine aJ (q := 14) (k := i) dX9_get_13 taK2 (by first | rfl | omega | (simp (disch := omega) only [w32_of]; omega)) (by omega) rfl ?_
    refine Ev.goto (q := 18) dX9_get_14 (by decide) ?_
    refine rJ dX9_get_18 rfl ?_
    exact ⟨rfl, rfl⟩
set_option maxRecDepth 4000 in
theorem p_X9_cut {Γ : Gm} {d : Nat} {m : Mem} (c : Nat) (v : Int) (hc : c ∈ traC) (hs : 0 ≤ m c 1 ∧ m c 1 ≤ 3) : Ci Γ (d + 0) MX9_cut [rv c, jv v] m (fun r m' => r = cutV v (m c 1) ∧ m' = m) := by
  refine Ci.of moX9_cut rfl rfl (fun hA hM => ?_)
  show Em Γ (d + 0) MX9_cut _ 0 [rv c, jv v, uv] [] m
  obtain ⟨taK, tar, taK2, taN⟩ := traK c hc
  obtain ⟨srt, hsr⟩ : ∃ srt, m c 1 = srt := ⟨_, rfl⟩
  rw [hsr] at hs ⊢
  refine Ev.aload_n (q := 1) dX9_cut_0 rfl rfl ?_
  refine gI (q := 4) dX9_cut_1 gfX9_15 taK rfl rfl ?_
  rw [hsr]
  by_cases w0 : srt = 0
  · subst w0
    refine Ev.tabIn (q := 32) dX9_cut_4 (by decide) (by decide) rfl rfl ?_
    refine Ev.lload_n (q := 33) dX9_cut_32 rfl rfl ?_
    refine Ev.l2i (q := 34) dX9_cut_33 rfl ?_
    refine Ev.i2b (q := 35) dX9_cut_34 rfl ?_
    refine Ev.i2l (q := 36) dX9_cut_35 rfl ?_
    refine rJ dX9_cut_36 rfl ?_
    exact ⟨rfl, rfl⟩
  by_cases w1 : srt = 1
  · subst w1
    refine Ev.tabIn (q := 37) dX9_cut_4 (by decide) (by decide) rfl rfl ?_
    refine Ev.lload_n (q := 38) dX9_cut_37 rfl rfl ?_
    refine Ev.l2i (q := 39) dX9_cut_38 rfl ?_
    refine Ev.i2s (q := 40) dX9_cut_39 rfl ?_
    refine Ev.i2l (q := 41) dX9_cut_40 rfl ?_
    refine rJ dX9_cut_41 rfl ?_
    exact ⟨rfl, rfl⟩
  by_cases w2 : srt = 2
  · subst w2
    refine Ev.tabIn (q := 42) dX9_cut_4 (by decide) (by decide) rfl rfl ?_
    refine Ev.lload_n (q := 43) dX9_cut_42 rfl rfl ?_
    refine Ev.l2i (q := 44) dX9_cut_43 rfl ?_
    refine Ev.i2l (q := 45) dX9_cut_44 rfl ?_
    refine rJ dX9_cut_45 rfl ?_
    exact ⟨rfl, rfl⟩
  refine Ev.tabOut (q := 46) dX9_cut_4 (by omega) rfl ?_
  refine Ev.lload_n (q := 47) dX9_cut_46 rfl rfl ?_
  refine rJ dX9_cut_47 rfl ?_
  exact ⟨by unfold cutV; rw [if_neg w0, if_neg w1, if_neg w2], rfl⟩
set_option maxRecDepth 4000 in
theorem p_X9_put {Γ : Gm} {d : Nat} {m : Mem} (c i : Nat) (v : Int) (hc : c ∈ traC) (hi : (i : Int) < m c 0) (hi4 : i < 40) (hs : 0 ≤ m c 1 ∧ m c 1 ≤ 3) : Ci Γ (d + 1) MX9_put [rv c, iv i, jv v] m (fun r m' => r = cutV v (m c 1) ∧ m' = up m (c + 1) i (cutV v (m c 1))) := by
  refine Ci.of moX9_put rfl rfl (fun hA hM => ?_)
  show Em Γ (d + 1) MX9_put _ 0 [rv c, iv i, jv v, uv] [] m
  obtain ⟨taK, tar, taK2, taN⟩ := traK c hc
  refine Ev.aload_n (q := 1) dX9_put_0 rfl rfl ?_
  refine Ev.iload_n (q := 2) dX9_put_1 rfl rfl ?_
  refine cV1i (q := 5) (d' := d + 0) dX9_put_2 mlX9_28 moX9_has mvX9_has taK rfl rfl rfl (Nat.le_refl _) rfl rfl rfl (p_X9_has c i hc) (fun r1 m1 e1 => ?_)
  obtain ⟨rfl, e1⟩ := e1
  obtain rfl := e1.symm
  refine Ev.if_ne (tgt := 10) (q := 8) dX9_put_5 (by decide) rfl (fun h2 => ?_) (fun h2 => ?_)
  · skip
    refine Ev.aload_n (q := 11) dX9_put_10 rfl rfl ?_
    refine gR (q := 14) dX9_put_11 gfX9_18 taK tar rfl rfl ?_
    refine Ev.iload_n (q := 15) dX9_put_14 rfl rfl ?_
    refine Ev.aload_n (q := 16) dX9_put_15 rfl rfl ?_
    refine Ev.lload_n (q := 17) dX9_put_16 rfl rfl ?_
    refine cV1j (q := 20) (d' := d + 0) dX9_put_17 mlX9_32 moX9_cut mvX9_cut taK rfl rfl rfl (Nat.le_refl _) rfl rfl rfl (p_X9_cut c v hc hs) (fun r3 m3 e3 => ?_)
    obtain ⟨rfl, e3⟩ := e3
    obtain rfl := e3.symm
    refine sJ (q := 21) (k := i) dX9_put_20 taK2 (by first | rfl | omega | (simp (disch := omega) only [w32_of]; omega)) (by omega) rfl ?_
    refine Ev.aload_n (q := 22) dX9_put_21 rfl rfl ?_
    refine gR (q := 25) dX9_put_22 gfX9_18 taK tar rfl rfl ?_
    refine Ev.iload_n (q := 26) dX9_put_25 rfl rfl ?_
    refine aJ (q := 27) (k := i) dX9_put_26 taK2 (by first | rfl | omega | (simp (disch := omega) only [w32_of]; omega)) (by omega) rfl ?_
    refine rJ dX9_put_27 rfl ?_
    exact ⟨up_eq _ _ _ _, rfl⟩
  · skip
    rw [if_pos ⟨by omega, hi⟩] at h2
    exact absurd h2 (by decide)
def sTy (c a _k : Nat) : Bool := a == c || a == c + 1
set_option maxRecDepth 4000 in
theorem p_X9_become {Γ : Gm} {d : Nat} {m : Mem} (c : Nat) (s n : Int) (hc : c ∈ traC) : Ci Γ (d + 1) MX9_become [rv c, iv s, iv n] m (fun r m' => m' c 0 = n ∧ m' c 1 = s ∧ (∀ j, j < 40 → m' (c + 1) j = 0) ∧ Fr (sTy c) m m') := by
  refine Ci.of moX9_become rfl rfl (fun hA hM => ?_)
  show Em Γ (d + 1) MX9_become _ 0 [rv c, iv s, iv n] [] m
  obtain ⟨taK, tar, taK2, taN⟩ := traK c hc
  refine Ev.aload_n (q := 1) dX9_become_0 rfl rfl ?_
  refine Ev.iload_n (q := 2) dX9_become_1 rfl rfl ?_
  refine pI (q := 5) dX9_become_2 gfX9_15 taK rfl rfl ?_
  refine Ev.aload_n (q := 6) dX9_become_5 rfl rfl ?_
  refine Ev.iload_n (q := 7) dX9_become_6 rfl rfl ?_
  refine pI (q := 10) dX9_become_7 gfX9_9 taK rfl rfl ?_
  refine Ev.aload_n (q := 11) dX9_become_10 rfl rfl ?_
  refine gR (q := 14) dX9_become_11 gfX9_18 taK tar rfl rfl ?_
  refine Ev.lconst (q := 15) dX9_become_14 kj_0 rfl ?_
  refine cS2v (q := 18) (d' := d + 0) dX9_become_15 mlX9_22 moJ7_fill_d0a16 msJ7_fill_d0a16 rfl rfl (Nat.le_refl _) rfl rfl rfl (p_J7_fill_d0a16 (c + 1) 40 0 taK2 (by decide)) (fun r1 m1 e1 => ?_)
  obtain ⟨hz, hFz⟩ := e1
  refine rV dX9_become_18 rfl ?_
  refine ⟨?_, ?_, hz, ?_⟩
  · rw [hFz.rowA (by omega), up_eq]
  · rw [hFz.rowA (by omega), up_k _ _ (by decide), up_eq]
  · refine ((((Fr.rf (sTy c) m).up (by simp [sTy])).up (by simp [sTy])).tr (hFz.mono (fun a k q => ?_)))
    unfold sTy at q
    unfold sA
    simp at q ⊢
    exact q.2
set_option maxRecDepth 4000 in
theorem p_X0_doNumber {Γ : Gm} {d : Nat} {m : Mem} (g : Row) (n : Nat) (v : Int) (hn : n ∈ nowC) (hI : HI g) (hH : HouR g m 33) (hR : NowR g m n) : Ci Γ (d + 4) MX0_doNumber [rv 66, rv n, jv v] m (fun r m' => r = whyN g v ∧ NowR (if whyN g v = 0 then doN g v else g) m' n ∧ Fr (sDe n) m m') := by
  refine Ci.of moX0_doNumber rfl rfl (fun hA hM => ?_)
  show Em Γ (d + 4) MX0_doNumber _ 0 [rv 66, rv n, jv v, uv, uv] [] m
  obtain ⟨nwK, ⟨nwr0, nwr1, nwr2, nwr3, nwr4, nwr5, nwr6⟩, nwK0, nwK1, nwK2, nwK3, nwK4, nwK5, nwK6, nwN⟩ := nowK n hn
  have hv64 := okV_j (okA_2 hA)
  refine Ev.lload_n (q := 1) dX0_doNumber_0 rfl rfl ?_
  refine Ev.lconst (q := 2) dX0_doNumber_1 kj_0 rfl ?_
  refine Ev.lcmp (q := 3) dX0_doNumber_2 rfl ?_
  refine Ev.if_lt (tgt := 14) (q := 6) dX0_doNumber_3 (by decide) rfl (fun h1 => ?_) (fun h1 => ?_)
  · skip
    have hbad : v < 0 := by have := lcmp_lt hv64 w0'; omega
    refine Ev.iconst (q := 15) dX0_doNumber_14 ki_1 rfl ?_
    refine rI dX0_doNumber_15 rfl ?_
    have hw : whyN g v = 1 := by unfold whyN; rw [if_pos (Or.inl hbad)]
    rw [hw]
    exact ⟨rfl, by rw [if_neg (by decide)]; exact hR, Fr.rf _ _⟩
  · skip
    refine Ev.lload_n (q := 7) dX0_doNumber_6 rfl rfl ?_
    refine Ev.ldc2 (q := 10) dX0_doNumber_7 klX0_118 klvX0_118 rfl ?_
    refine Ev.lcmp (q := 11) dX0_doNumber_10 rfl ?_
    refine Ev.if_le (tgt := 16) (q := 14) dX0_doNumber_11 (by decide) rfl (fun h2 => ?_) (fun h2 => ?_)
    · skip
      have hr1 : 0 ≤ v := by have := lcmp_lt hv64 w0'; omega
      have hr2 : v ≤ 5799 := by have := lcmp_gt hv64 (show w64 5799 = 5799 by decide); omega
      obtain ⟨vn, rfl⟩ : ∃ vn : Nat, v = vn := ⟨v.toNat, by omega⟩
      have hlt : vn < 6000 := by omega
      refine Ev.lload_n (q := 17) dX0_doNumber_16 rfl rfl ?_
      refine Ev.ldc2 (q := 20) dX0_doNumber_17 klX0_120 klvX0_120 rfl ?_
      refine Ev.lrem (q := 21) dX0_doNumber_20 (by decide) rfl ?_
      rw [show (1000 : Int) = ((1000 : Nat) : Int) from rfl, lrem_n (by omega) (by decide) (by decide)]
      refine Ev.l2i (q := 22) dX0_doNumber_21 rfl ?_
      rw [w32_of (by omega) (by omega)]
      refine istore_4 (q := 24) dX0_doNumber_22 rfl rfl rfl ?_
      refine Ev.lload_n (q := 25) dX0_doNumber_24 rfl rfl ?_
      refine Ev.ldc2 (q := 28) dX0_doNumber_25 klX0_120 klvX0_120 rfl ?_
      refine Ev.ldiv (q := 29) dX0_doNumber_28 (by decide) rfl ?_
      rw [show (1000 : Int) = ((1000 : Nat) : Int) from rfl, ldiv_n (by omega) (by decide) (by decide)]
      refine Ev.l2i (q := 30) dX0_doNumber_29 rfl ?_
      rw [w32_of (by omega) (by omega)]
      obtain ⟨kv, hkv⟩ : ∃ kv : Int, kv = ((vn / 1000 : Nat) : Int) := ⟨_, rfl⟩
      rw [← hkv]
      by_cases w0 : kv = 0
      · subst w0
        refine Ev.tabIn (q := 64) dX0_doNumber_30 (by decide) (by decide) rfl rfl ?_
        refine Ev.aload_n (q := 65) dX0_doNumber_64 rfl rfl ?_
        refine Ev.aload_n (q := 66) dX0_doNumber_65 rfl rfl ?_
        refine Ev.iload (q := 68) dX0_doNumber_66 rfl rfl ?_
        refine Ev.bipush (q := 70) dX0_doNumber_68 kb_100 rfl ?_
        refine Ev.idiv (q := 71) dX0_doNumber_70 (by decide) rfl ?_
        rw [show (100 : Int) = ((100 : Nat) : Int) from rfl, idiv_n (by omega) (by decide) (by decide)]
        refine Ev.iload (q := 73) dX0_doNumber_71 rfl rfl ?_
        refine Ev.bipush (q := 75) dX0_doNumber_73 kb_100 rfl ?_
        refine Ev.irem (q := 76) dX0_doNumber_75 (by decide) rfl ?_
        rw [show (100 : Int) = ((100 : Nat) : Int) from rfl, irem_n (by omega) (by decide) (by decide)]
        refine cV3i (q := 79) (d' := d + 3) dX0_doNumber_76 mlX0_122 moX0_lightOn mvX0_lightOn k66 rfl rfl rfl (Nat.le_refl _) rfl rfl rfl (p_X0_lightOn g n _ _ hn hI hH hR) (fun r3 m3 e3 => ?_)
        obtain ⟨x1, x2, x3⟩ := e3
        have hk : vn / 1000 = 0 := by omega
        have hw : whyN g vn = whyP g ((vn % 1000 / 100 : Nat) : Int) ((vn % 1000 % 100 : Nat) : Int) false := (whyN_k hk hlt).trans rfl
        have hd : doN g vn = doD g 0 (vn % 1000 / 100) (vn % 1000 % 100) := by unfold doN; rw [Int.toNat_natCast, hk]; rfl
        refine rI dX0_doNumber_79 rfl ?_
        rw [hw, hd]
        exact ⟨x1, x2, x3⟩
      by_cases w1 : kv = 1
      · subst w1
        refine Ev.tabIn (q := 80) dX0_doNumber_30 (by decide) (by decide) rfl rfl ?_
        refine Ev.aload_n (q := 81) dX0_doNumber_80 rfl rfl ?_
        refine Ev.aload_n (q := 82) dX0_doNumber_81 rfl rfl ?_
        refine Ev.iload (q := 84) dX0_doNumber_82 rfl rfl ?_
        refine Ev.bipush (q := 86) dX0_doNumber_84 kb_100 rfl ?_
        refine Ev.idiv (q := 87) dX0_doNumber_86 (by decide) rfl ?_
        rw [show (100 : Int) = ((100 : Nat) : Int) from rfl, idiv_n (by omega) (by decide) (by decide)]
        refine Ev.iload (q := 89) dX0_doNumber_87 rfl rfl ?_
        refine Ev.bipush (q := 91) dX0_doNumber_89 kb_100 rfl ?_
        refine Ev.irem (q := 92) dX0_doNumber_91 (by decide) rfl ?_
        rw [show (100 : Int) = ((100 : Nat) : Int) from rfl, irem_n (by omega) (by decide) (by decide)]
        refine cV3i (q := 95) (d' := d + 3) dX0_doNumber_92 mlX0_126 moX0_lightOff mvX0_lightOff k66 rfl rfl rfl (Nat.le_refl _) rfl rfl rfl (p_X0_lightOff g n _ _ hn hI hH hR) (fun r4 m4 e4 => ?_)
        obtain ⟨x1, x2, x3⟩ := e4
        have hk : vn / 1000 = 1 := by omega
        have hw : whyN g vn = whyP g ((vn % 1000 / 100 : Nat) : Int) ((vn % 1000 % 100 : Nat) : Int) true := (whyN_k hk hlt).trans rfl
        have hd : doN g vn = doD g 1 (vn % 1000 / 100) (vn % 1000 % 100) := by unfold doN; rw [Int.toNat_natCast, hk]; rfl
        refine rI dX0_doNumber_95 rfl ?_
        rw [hw, hd]
        exact ⟨x1, x2, x3⟩
      by_cases w2 : kv = 2
      · subst w2
        refine Ev.tabIn (q := 96) dX0_doNumber_30 (by decide) (by decide) rfl rfl ?_
        refine Ev.aload_n (q := 97) dX0_doNumber_96 rfl rfl ?_
        refine Ev.aload_n (q := 98) dX0_doNumber_97 rfl rfl ?_
        refine Ev.iload (q := 100) dX0_doNumber_98 rfl rfl ?_
        refine cV2i (q := 103) (d' := d + 3) dX0_doNumber_100 mlX0_129 moX0_rideOnce mvX0_rideOnce k66 rfl rfl rfl (Nat.le_refl _) rfl rfl rfl (p_X0_rideOnce g n _ hn hI hH hR) (fun r5 m5 e5 => ?_)
        obtain ⟨x1, x2, x3⟩ := e5
        have hk : vn / 1000 = 2 := by omega
        have hw : whyN g vn = whyR g ((vn % 1000 : Nat) : Int) := (whyN_k hk hlt).trans rfl
        have hd : doN g vn = doD g 2 (vn % 1000) 0 := by unfold doN; rw [Int.toNat_natCast, hk]; rfl
        refine rI dX0_doNumber_103 rfl ?_
        rw [hw, hd]
        exact ⟨x1, x2, x3⟩
      by_cases w3 : kv = 3
      · subst w3
        refine Ev.tabIn (q := 104) dX0_doNumber_30 (by decide) (by decide) rfl rfl ?_
        refine Ev.aload_n (q := 105) dX0_doNumber_104 rfl rfl ?_
        refine Ev.aload_n (q := 106) dX0_doNumber_105 rfl rfl ?_
        refine Ev.iload (q := 108) dX0_doNumber_106 rfl rfl ?_
        refine cV2i (q := 111) (d' := d + 3) dX0_doNumber_108 mlX0_133 moX0_getOut mvX0_getOut k66 rfl rfl rfl (Nat.le_refl _) rfl rfl rfl (p_X0_getOut g n _ hn hI hH hR) (fun r6 m6 e6 => ?_)
        obtain ⟨x1, x2, x3⟩ := e6
        have hk : vn / 1000 = 3 := by omega
        have hw : whyN g vn = whyO g ((vn % 1000 : Nat) : Int) := (whyN_k hk hlt).trans rfl
        have hd : doN g vn = doD g 3 (vn % 1000) 0 := by unfold doN; rw [Int.toNat_natCast, hk]; rfl
        refine rI dX0_doNumber_111 rfl ?_
        rw [hw, hd]
        exact ⟨x1, x2, x3⟩
      by_cases w4 : kv = 4
      · subst w4
        refine Ev.tabIn (q := 112) dX0_doNumber_30 (by decide) (by decide) rfl rfl ?_
        refine Ev.aload_n (q := 113) dX0_doNumber_112 rfl rfl ?_
        refine Ev.aload_n (q := 114) dX0_doNumber_113 rfl rfl ?_
        refine Ev.iload (q := 116) dX0_doNumber_114 rfl rfl ?_
        refine Ev.bipush (q := 118) dX0_doNumber_116 kb_10 rfl ?_
        refine Ev.idiv (q := 119) dX0_doNumber_118 (by decide) rfl ?_
        rw [show (10 : Int) = ((10 : Nat) : Int) from rfl, idiv_n (by omega) (by decide) (by decide)]
        refine Ev.iload (q := 121) dX0_doNumber_119 rfl rfl ?_
        refine Ev.bipush (q := 123) dX0_doNumber_121 kb_10 rfl ?_
        refine Ev.irem (q := 124) dX0_doNumber_123 (by decide) rfl ?_
        rw [show (10 : Int) = ((10 : Nat) : Int) from rfl, irem_n (by omega) (by decide) (by decide)]
        refine cV3i (q := 127) (d' := d + 3) dX0_doNumber_124 mlX0_136 moX0_getIn mvX0_getIn k66 rfl rfl rfl (Nat.le_refl _) rfl rfl rfl (p_X0_getIn g n _ _ hn hI hH hR) (fun r7 m7 e7 => ?_)
        obtain ⟨x1, x2, x3⟩ := e7
        have hk : vn / 1000 = 4 := by omega
        have hw : whyN g vn = whyI g ((vn % 1000 / 10 : Nat) : Int) ((vn % 1000 % 10 : Nat) : Int) := (whyN_k hk hlt).trans rfl
        have hd : doN g vn = doD g 4 (vn % 1000 / 10) (vn % 1000 % 10) := by unfold doN; rw [Int.toNat_natCast, hk]; rfl
        refine rI dX0_doNumber_127 rfl ?_
        rw [hw, hd]
        exact ⟨x1, x2, x3⟩
      refine Ev.tabOut (q := 128) dX0_doNumber_30 (by omega) rfl ?_
      refine Ev.aload_n (q := 129) dX0_doNumber_128 rfl rfl ?_
      refine Ev.aload_n (q := 130) dX0_doNumber_129 rfl rfl ?_
      refine Ev.iload (q := 132) dX0_doNumber_130 rfl rfl ?_
      refine Ev.bipush (q := 134) dX0_doNumber_132 kb_100 rfl ?_
      refine Ev.idiv (q := 135) dX0_doNumber_134 (by decide) rfl ?_
      rw [show (100 : Int) = ((100 : Nat) : Int) from rfl, idiv_n (by omega) (by decide) (by decide)]
      refine Ev.iload (q := 137) dX0_doNumber_135 rfl rfl ?_
      refine Ev.bipush (q := 139) dX0_doNumber_137 kb_100 rfl ?_
      refine Ev.irem (q := 140) dX0_doNumber_139 (by decide) rfl ?_
      rw [show (100 : Int) = ((100 : Nat) : Int) from rfl, irem_n (by omega) (by decide) (by decide)]
      refine cV3i (q := 143) (d' := d + 3) dX0_doNumber_140 mlX0_139 moX0_walkTo mvX0_walkTo k66 rfl rfl rfl (Nat.le_refl _) rfl rfl rfl (p_X0_walkTo g n _ _ hn hI hH hR) (fun r8 m8 e8 => ?_)
      obtain ⟨x1, x2, x3⟩ := e8
      have hk : vn / 1000 = 5 := by omega
      have hw : whyN g vn = whyW g ((vn % 1000 / 100 : Nat) : Int) ((vn % 1000 % 100 : Nat) : Int) := (whyN_k hk hlt).trans rfl
      have hd : doN g vn = doD g 5 (vn % 1000 / 100) (vn % 1000 % 100) := by unfold doN; rw [Int.toNat_natCast, hk]; rfl
      refine rI dX0_doNumber_143 rfl ?_
      rw [hw, hd]
      exact ⟨x1, x2, x3⟩
    · skip
      have hbad : 5799 < v := by have := lcmp_gt hv64 (show w64 5799 = 5799 by decide); omega
      refine Ev.iconst (q := 15) dX0_doNumber_14 ki_1 rfl ?_
      refine rI dX0_doNumber_15 rfl ?_
      have hw : whyN g v = 1 := by
        by_cases hv : v < 0 ∨ 5999 < v
        · unfold whyN; rw [if_pos hv]
        · obtain ⟨vn, rfl⟩ : ∃ vn : Nat, v = vn := ⟨v.toNat, by omega⟩
          have hP := hI.2.2.1
          rw [whyN_k (k := 5) (by omega) (by omega)]; exact whyW_far (by show ¬ ((0 : Int) ≤ ((vn % 1000 / 100 : Nat) : Int) ∧ ((vn % 1000 / 100 : Nat) : Int) < g 3); omega) _
      rw [hw]
      exact ⟨rfl, by rw [if_neg (by decide)]; exact hR, Fr.rf _ _⟩
