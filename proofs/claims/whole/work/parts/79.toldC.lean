/-! ===== the class: told deeds, evenings, undoing ===== -/
theorem traN : ∀ i, i < 4 → rf 61 i = 165 + 2 * i ∧ (165 + 2 * i) ∈ traC := by decide +kernel
theorem Fr.sdf {m m' : Mem} (h : Fr (sDf 52) m m') : Fr sC m m' := h.mono (fun a k q => sDf_f (by have := sC_n q; omega) (by have := sC_n q; omega) (by have := sC_n q; omega))
theorem Fr.n52 {m m' : Mem} (h : Fr (sN 52) m m') : Fr sC m m' := h.mono (fun a k q => sN_f (by have := sC_n q; omega))
/-- the trays of both -/
def TrR (m : Mem) (t : Nat) : Prop := TraR m (165 + 2 * t) (m 220 t) (m 221 t).toNat (fun i => m 222 (40 * t + i))
set_option maxRecDepth 4000 in
theorem p_X11_undo {Γ : Gm} {d : Nat} {m : Mem} (pa n : Nat) (k : Int) (hpa : pa < 11) (hn : n ≤ 10) (h7 : m 0 7 = pa) (h8 : m 0 8 = n) : Ci Γ (d + 2) MX11_undo [rv 0, iv k] m (fun r m' => ((1 ≤ k ∧ k ≤ n) → r = (n : Int) - k ∧ m' 0 7 = (((pa + 11 - k.toNat) % 11 : Nat) : Int) ∧ m' 0 8 = (n : Int) - k ∧ (∀ i, 1 ≤ i → i ≤ 7 → ∀ j, j < nlen i → m' (44 + i) j = m (77 + 8 * ((pa + 11 - k.toNat) % 11) + i) j) ∧ Fr (sDd pa) m m') ∧ (¬ (1 ≤ k ∧ k ≤ n) → r = -3 ∧ m' = m)) := by
  refine Ci.of moX11_undo rfl rfl (fun hA hM => ?_)
  show Em Γ (d + 2) MX11_undo _ 0 [rv 0, iv k] [] m
  refine Ev.iload_n (q := 1) dX11_undo_0 rfl rfl ?_
  refine Ev.iconst (q := 2) dX11_undo_1 ki_1 rfl ?_
  refine Ev.icmp_lt (tgt := 13) (q := 5) dX11_undo_2 (by decide) rfl (fun h1 => ?_) (fun h1 => ?_)
  · skip
    refine Ev.bipush (q := 15) dX11_undo_13 kb_m3 rfl ?_
    refine rI dX11_undo_15 rfl ?_
    exact ⟨fun z => absurd z (by omega), fun _ => ⟨rfl, rfl⟩⟩
  · skip
    refine Ev.iload_n (q := 6) dX11_undo_5 rfl rfl ?_
    refine Ev.aload_n (q := 7) dX11_undo_6 rfl rfl ?_
    refine gI (q := 10) dX11_undo_7 gfX11_48 k0 rfl rfl ?_
    rw [h8]
    refine Ev.icmp_le (tgt := 16) (q := 13) dX11_undo_10 (by decide) rfl (fun h2 => ?_) (fun h2 => ?_)
    · skip
      obtain ⟨kn, rfl⟩ : ∃ kn : Nat, k = kn := ⟨k.toNat, by omega⟩
      have hib : (pa + 11 - kn) % 11 < 11 := Nat.mod_lt _ (by decide)
      obtain ⟨ib, hib9⟩ : ∃ ib, ib = (pa + 11 - kn) % 11 := ⟨_, rfl⟩
      rw [← hib9] at hib
      obtain ⟨pwK, ⟨pwr0, pwr1, pwr2, pwr3, pwr4, pwr5, pwr6⟩, pwK0, pwK1, pwK2, pwK3, pwK4, pwK5, pwK6, pwN⟩ := nowK (77 + 8 * ib) (pastK ib hib).2
      refine Ev.aload_n (q := 17) dX11_undo_16 rfl rfl ?_
      refine Ev.aload_n (q := 18) dX11_undo_17 rfl rfl ?_
      refine gI (q := 21) dX11_undo_18 gfX11_45 k0 rfl rfl ?_
      rw [h7]
      refine Ev.iload_n (q := 22) dX11_undo_21 rfl rfl ?_
      refine Ev.isub (q := 23) dX11_undo_22 rfl ?_
      refine Ev.aload_n (q := 24) dX11_undo_23 rfl rfl ?_
      refine gR (q := 27) dX11_undo_24 gfX11_41 k0 r0_6 rfl rfl ?_
      refine aLen (q := 28) dX11_undo_27 k60 (by decide) (by decide) rfl ?_
      rw [w32_of (by omega) (by omega)]
      refine cS2i (q := 31) (d' := d + 1) dX11_undo_28 mlX11_235 moJ9_floorMod_7cf53 msJ9_floorMod_7cf53 rfl rfl (Nat.le_refl _) rfl rfl rfl (p_J9_floorMod_7cf53 ((pa : Int) - kn) (by omega)) (fun r3 m3 e3 => ?_)
      obtain ⟨y1, y2⟩ := e3
      have y1 : r3 = (ib : Int) := by rw [y1, hib9]; omega
      subst y1
      obtain rfl := y2.symm
      refine pI (q := 34) dX11_undo_31 gfX11_45 k0 rfl rfl ?_
      refine Ev.aload_n (q := 35) dX11_undo_34 rfl rfl ?_
      refine gR (q := 38) dX11_undo_35 gfX11_34 k0 r0_4 rfl rfl ?_
      refine Ev.aload_n (q := 39) dX11_undo_38 rfl rfl ?_
      refine gR (q := 42) dX11_undo_39 gfX11_41 k0 r0_6 rfl rfl ?_
      refine Ev.aload_n (q := 43) dX11_undo_42 rfl rfl ?_
      refine gI (q := 46) dX11_undo_43 gfX11_45 k0 rfl rfl ?_
      rw [up_eq]
      refine aR (q := 47) (k := ib) dX11_undo_46 k60 (by decide) (by first | rfl | omega | (simp (disch := omega) only [w32_of]; omega)) (by omega) (pastK ib hib).1 rfl ?_
      refine cV1v (q := 50) (d' := d + 1) dX11_undo_47 mlX11_126 moX4_copyFrom mvX4_copyFrom k44 rfl rfl rfl (Nat.le_refl _) rfl rfl rfl (p_X4_copyFrom 44 (77 + 8 * ib) (by decide) (pastK ib hib).2 (by omega)) (fun r4 m4 e4 => ?_)
      obtain ⟨M1, rfl⟩ : ∃ M1, M1 = m4 := ⟨_, rfl⟩
      obtain ⟨k1, f1⟩ := e4
      have d8 : M1 0 8 = n := by rw [f1 0 8 (sN_f (by omega)), up_k _ _ (by decide)]; exact h8
      have d7 : M1 0 7 = ib := by rw [f1 0 7 (sN_f (by omega)), up_eq]
      refine Ev.aload_n (q := 51) dX11_undo_50 rfl rfl ?_
      refine Ev.dup (q := 52) dX11_undo_51 (fun z => by cases z) rfl ?_
      refine gI (q := 55) dX11_undo_52 gfX11_48 k0 rfl rfl ?_
      rw [d8]
      refine Ev.iload_n (q := 56) dX11_undo_55 rfl rfl ?_
      refine Ev.isub (q := 57) dX11_undo_56 rfl ?_
      rw [w32_of (by omega) (by omega)]
      refine pI (q := 60) dX11_undo_57 gfX11_48 k0 rfl rfl ?_
      refine Ev.aload_n (q := 61) dX11_undo_60 rfl rfl ?_
      refine gI (q := 64) dX11_undo_61 gfX11_48 k0 rfl rfl ?_
      rw [up_eq]
      refine rI dX11_undo_64 rfl ?_
      refine ⟨fun _ => ⟨rfl, ?_, ?_, fun i h1 h2 j hj => ?_, ?_⟩, fun z => absurd (by omega) z⟩
      · rw [up_k _ _ (by decide), d7, hib9]
        rfl
      · rw [up_eq]
      · rw [up_o _ _ (by omega), k1 i h1 h2 j hj, up_o _ _ (by omega), hib9]
        rfl
      · exact (((Fr.rf (sDd pa) m).up (sDd_7 pa)).tr (f1.mono (fun a k q => sN_f (by have := sDd_n q; omega)))).up (sDd_8 pa)
    · skip
      refine Ev.bipush (q := 15) dX11_undo_13 kb_m3 rfl ?_
      refine rI dX11_undo_15 rfl ?_
      exact ⟨fun z => absurd z (by omega), fun _ => ⟨rfl, rfl⟩⟩
set_option maxRecDepth 4000 in
theorem p_X11_judge {Γ : Gm} {d : Nat} {m : Mem} (g : Row) (sort : Nat → Int) (many : Nat → Nat) (num : Nat → Nat → Int) (t what : Int) (hI : HI g) (hH : HouR g m 33) (hN : NowR g m 44) (hT : ∀ i, i < 4 → TraR m (165 + 2 * i) (sort i) (many i) (num i)) (hsr : ∀ i, i < 4 → sort i = -1 ∨ (0 ≤ sort i ∧ sort i ≤ 3)) : Ci Γ (d + 6) MX11_judge [rv 0, iv t, iv what] m (fun r m' => r = q_judge g (num t.toNat) (sort t.toNat) (many t.toNat) t what ∧ Fr sC m m') := by
  refine Ci.of moX11_judge rfl rfl (fun hA hM => ?_)
  show Em Γ (d + 6) MX11_judge _ 0 [rv 0, iv t, iv what, uv] [] m
  have hF12 := hI.1
  have hP8 := hI.2.2.1
  have hL3 := hI.2.1
  obtain ⟨n0, n1, n2, n3⟩ := hH.n0
  refine Ev.aload_n (q := 1) dX11_judge_0 rfl rfl ?_
  refine Ev.iload_n (q := 2) dX11_judge_1 rfl rfl ?_
  refine cV1i (q := 5) (d' := d + 5) dX11_judge_2 mlX11_241 moX11_isTray mvX11_isTray k0 rfl rfl rfl (Nat.le_refl _) rfl rfl rfl (p_X11_isTray t) (fun r1 m1 e1 => ?_)
  obtain ⟨rfl, e1⟩ := e1
  obtain rfl := e1.symm
  refine Ev.if_eq (tgt := 17) (q := 8) dX11_judge_5 (by decide) rfl (fun h2 => ?_) (fun h2 => ?_)
  · skip
    have hTT : ¬ (0 ≤ t ∧ t ≤ 3) := by split at h2 <;> omega
    refine Ev.bipush (q := 19) dX11_judge_17 kb_m2 rfl ?_
    refine rI dX11_judge_19 rfl ?_
    exact ⟨by unfold q_judge; rw [if_neg (by omega)], Fr.rf _ _⟩
  · skip
    have hTT : 0 ≤ t ∧ t ≤ 3 := by split at h2 <;> omega
    obtain ⟨tn, rfl⟩ : ∃ tn : Nat, t = tn := ⟨t.toNat, by omega⟩
    obtain ⟨taK, tar, taK2, taN⟩ := traK (165 + 2 * tn) (traN tn (by omega)).2
    obtain ⟨tm1, tm2⟩ := hT tn (by omega)
    refine Ev.iload_n (q := 9) dX11_judge_8 rfl rfl ?_
    refine Ev.if_lt (tgt := 17) (q := 12) dX11_judge_9 (by decide) rfl (fun h3 => ?_) (fun h3 => ?_)
    · skip
      refine Ev.bipush (q := 19) dX11_judge_17 kb_m2 rfl ?_
      refine rI dX11_judge_19 rfl ?_
      exact ⟨by unfold q_judge; rw [if_neg (by omega)], Fr.rf _ _⟩
    · skip
      refine Ev.iload_n (q := 13) dX11_judge_12 rfl rfl ?_
      refine Ev.iconst (q := 14) dX11_judge_13 ki_3 rfl ?_
      refine Ev.icmp_le (tgt := 20) (q := 17) dX11_judge_14 (by decide) rfl (fun h4 => ?_) (fun h4 => ?_)
      · skip
        refine Ev.aload_n (q := 21) dX11_judge_20 rfl rfl ?_
        refine gR (q := 24) dX11_judge_21 gfX11_53 k0 r0_9 rfl rfl ?_
        refine Ev.iload_n (q := 25) dX11_judge_24 rfl rfl ?_
        refine aR (q := 26) (k := tn) dX11_judge_25 k61 (by decide) (by first | rfl | omega | (simp (disch := omega) only [w32_of]; omega)) (by omega) (traN tn (by omega)).1 rfl ?_
        refine cV0i (q := 29) (d' := d + 5) dX11_judge_26 mlX11_244 moX9_isMissing mvX9_isMissing taK rfl rfl rfl (Nat.le_refl _) rfl rfl rfl (p_X9_isMissing (165 + 2 * tn) (traN tn (by omega)).2) (fun r5 m5 e5 => ?_)
        obtain ⟨rfl, e5⟩ := e5
        obtain rfl := e5.symm
        refine Ev.if_eq (tgt := 35) (q := 32) dX11_judge_29 (by decide) rfl (fun h6 => ?_) (fun h6 => ?_)
        · skip
          have hms : ¬ sort tn = -1 := fun z => by rw [if_pos (tm1 z)] at h6; exact absurd h6 (by decide)
          obtain ⟨u0, u1, u2, u3, u4⟩ := tm2 hms
          refine Ev.aload_n (q := 36) dX11_judge_35 rfl rfl ?_
          refine gR (q := 39) dX11_judge_36 gfX11_38 k0 r0_5 rfl rfl ?_
          refine Ev.aload_n (q := 40) dX11_judge_39 rfl rfl ?_
          refine gR (q := 43) dX11_judge_40 gfX11_34 k0 r0_4 rfl rfl ?_
          refine cV1v (q := 46) (d' := d + 5) dX11_judge_43 mlX11_126 moX4_copyFrom mvX4_copyFrom k52 rfl rfl rfl (Nat.le_refl _) rfl rfl rfl (p_X4_copyFrom 52 44 (by decide) (by decide) (by decide)) (fun r7 m7 e7 => ?_)
          obtain ⟨M1, rfl⟩ : ∃ M1, M1 = m7 := ⟨_, rfl⟩
          obtain ⟨k1, f1⟩ := e7
          have hJ : NowR g M1 52 := NowR.copy hL3.2 hP8.2 hN k1
          refine Ev.aload_n (q := 47) dX11_judge_46 rfl rfl ?_
          refine gR (q := 50) dX11_judge_47 gfX11_80 k0 r0_14 rfl rfl ?_
          refine Ev.aload_n (q := 51) dX11_judge_50 rfl rfl ?_
          refine gR (q := 54) dX11_judge_51 gfX11_38 k0 r0_5 rfl rfl ?_
          refine Ev.aload_n (q := 55) dX11_judge_54 rfl rfl ?_
          refine gR (q := 58) dX11_judge_55 gfX11_53 k0 r0_9 rfl rfl ?_
          refine Ev.iload_n (q := 59) dX11_judge_58 rfl rfl ?_
          refine aR (q := 60) (k := tn) dX11_judge_59 k61 (by decide) (by first | rfl | omega | (simp (disch := omega) only [w32_of]; omega)) (by omega) (traN tn (by omega)).1 rfl ?_
          refine cV2i (q := 63) (d' := d + 5) dX11_judge_60 mlX11_248 moX0_doAll mvX0_doAll k66 rfl rfl rfl (Nat.le_refl _) rfl rfl rfl (p_X0_doAll g 52 (165 + 2 * tn) (many tn) (num tn) (by decide) hI (hH.c f1.n52) hJ (traN tn (by omega)).2 (Or.inr rfl) u3 (by rw [f1 _ _ (sN_f (by omega))]; exact u0) (fun i hi => by rw [f1 _ _ (sN_f (by omega))]; exact u4 i hi)) (fun r8 m8 e8 => ?_)
          obtain ⟨M2, rfl⟩ : ∃ M2, M2 = m8 := ⟨_, rfl⟩
          obtain ⟨y1, y2, y3, f2⟩ := e8
          subst y1
          have F2 : Fr sC m M2 := f1.n52.tr f2.sdf
          obtain ⟨hI2, hK2, -⟩ := telN_ok (num := num tn) (many tn) 0 g hI
          have hH2 : HouR (telN (num tn) (many tn) 0 g).2.2 M2 33 := (hH.c F2).Kp hI.2.1.2 hI.2.2.1.2 (fun j hj => hK2 j (by omega)) (fun j hj => hK2 j (by omega))
          refine istore_n_3 (q := 64) dX11_judge_63 rfl rfl rfl ?_
          refine Ev.iload_n (q := 65) dX11_judge_64 rfl rfl ?_
          by_cases w0 : what = 0
          · subst w0
            refine Ev.tabIn (q := 92) dX11_judge_65 (by decide) (by decide) rfl rfl ?_
            refine Ev.aload_n (q := 93) dX11_judge_92 rfl rfl ?_
            refine gR (q := 96) dX11_judge_93 gfX11_80 k0 r0_14 rfl rfl ?_
            refine gI (q := 99) dX11_judge_96 gfX11_252 k66 rfl rfl ?_
            rw [y3]
            refine Ev.if_ne (tgt := 106) (q := 102) dX11_judge_99 (by decide) rfl (fun h9 => ?_) (fun h9 => ?_)
            · skip
              refine Ev.iload_n (q := 107) dX11_judge_106 rfl rfl ?_
              refine rI dX11_judge_107 rfl ?_
              exact ⟨by unfold q_judge; simp only [Int.toNat_natCast]; rw [if_pos (by omega), if_neg hms]; unfold judV; rw [if_pos rfl, if_neg (by assumption)], F2⟩
            · skip
              refine Ev.iconst (q := 103) dX11_judge_102 ki_m1 rfl ?_
              refine Ev.goto (q := 107) dX11_judge_103 (by decide) ?_
              refine rI dX11_judge_107 rfl ?_
              exact ⟨by unfold q_judge; simp only [Int.toNat_natCast]; rw [if_pos (by omega), if_neg hms]; unfold judV; rw [if_pos rfl, if_pos (by assumption)], F2⟩
          by_cases w1 : what = 1
          · subst w1
            refine Ev.tabIn (q := 108) dX11_judge_65 (by decide) (by decide) rfl rfl ?_
            refine Ev.aload_n (q := 109) dX11_judge_108 rfl rfl ?_
            refine gR (q := 112) dX11_judge_109 gfX11_80 k0 r0_14 rfl rfl ?_
            refine gI (q := 115) dX11_judge_112 gfX11_252 k66 rfl rfl ?_
            refine rI dX11_judge_115 rfl ?_
            rw [y3]
            exact ⟨by unfold q_judge; simp only [Int.toNat_natCast]; rw [if_pos (by omega), if_neg hms]; rfl, F2⟩
          by_cases w2 : what = 2
          · subst w2
            refine Ev.tabIn (q := 116) dX11_judge_65 (by decide) (by decide) rfl rfl ?_
            refine Ev.aload_n (q := 117) dX11_judge_116 rfl rfl ?_
            refine Ev.aload_n (q := 118) dX11_judge_117 rfl rfl ?_
            refine gR (q := 121) dX11_judge_118 gfX11_38 k0 r0_5 rfl rfl ?_
            refine cV1i (q := 124) (d' := d + 5) dX11_judge_121 mlX11_255 moX11_peopleAtHome mvX11_peopleAtHome k0 rfl rfl rfl (Nat.le_refl _) rfl rfl rfl (p_X11_peopleAtHome _ 52 (by decide) hI2 hH2 y2) (fun r10 m10 e10 => ?_)
            obtain ⟨rfl, e10⟩ := e10
            obtain rfl := e10.symm
            refine rI dX11_judge_124 rfl ?_
            exact ⟨by unfold q_judge; simp only [Int.toNat_natCast]; rw [if_pos (by omega), if_neg hms]; rfl, F2⟩
          refine Ev.tabOut (q := 125) dX11_judge_65 (by omega) rfl ?_
          refine Ev.aload_n (q := 126) dX11_judge_125 rfl rfl ?_
          refine Ev.aload_n (q := 127) dX11_judge_126 rfl rfl ?_
          refine gR (q := 130) dX11_judge_127 gfX11_38 k0 r0_5 rfl rfl ?_
          refine cV1i (q := 133) (d' := d + 5) dX11_judge_130 mlX11_259 moX11_lightsOf mvX11_lightsOf k0 rfl rfl rfl (Nat.le_refl _) rfl rfl rfl (p_X11_lightsOf _ 52 (by decide) hI2 hH2 y2) (fun r11 m11 e11 => ?_)
          obtain ⟨rfl, e11⟩ := e11
          obtain rfl := e11.symm
          refine rI dX11_judge_133 rfl ?_
          exact ⟨by unfold q_judge; simp only [Int.toNat_natCast]; rw [if_pos (by omega), if_neg hms]; unfold judV; rw [if_neg w0, if_neg w1, if_neg w2], F2⟩
        · skip
          have hms : sort tn = -1 := Classical.byContradiction fun z => by rw [if_neg (by rw [(tm2 z).1]; omega)] at h6; exact absurd rfl h6
          refine Ev.bipush (q := 34) dX11_judge_32 kb_m6 rfl ?_
          refine rI dX11_judge_34 rfl ?_
          exact ⟨by unfold q_judge; simp only [Int.toNat_natCast]; rw [if_pos (by omega), if_pos hms], Fr.rf _ _⟩
      · skip
        refine Ev.bipush (q := 19) dX11_judge_17 kb_m2 rfl ?_
        refine rI dX11_judge_19 rfl ?_
        exact ⟨by unfold q_judge; rw [if_neg (by omega)], Fr.rf _ _⟩
set_option maxRecDepth 4000 in
theorem p_X11_perform {Γ : Gm} {d : Nat} {m : Mem} (g : Row) (pa n : Nat) (sort : Nat → Int) (many : Nat → Nat) (num : Nat → Nat → Int) (t : Int) (hI : HI g) (hH : HouR g m 33) (hN : NowR g m 44) (hpa : pa < 11) (hn : n ≤ 10) (h7 : m 0 7 = pa) (h8 : m 0 8 = n) (hT : ∀ i, i < 4 → TraR m (165 + 2 * i) (sort i) (many i) (num i)) (hsr : ∀ i, i < 4 → sort i = -1 ∨ (0 ≤ sort i ∧ sort i ≤ 3)) : Ci Γ (d + 6) MX11_perform [rv 0, iv t] m (fun r m' => (((0 ≤ t ∧ t ≤ 3) ∧ ¬ sort t.toNat = -1) → r = ((telN (num t.toNat) (many t.toNat) 0 g).2.1 : Int) ∧ (0 < (telN (num t.toNat) (many t.toNat) 0 g).2.1 → DOk g (telN (num t.toNat) (many t.toNat) 0 g).2.2 pa n m') ∧ (¬ 0 < (telN (num t.toNat) (many t.toNat) 0 g).2.1 → DNo (telN (num t.toNat) (many t.toNat) 0 g).2.2 pa n m') ∧ Fr (sDd pa) m m') ∧ (¬ ((0 ≤ t ∧ t ≤ 3) ∧ ¬ sort t.toNat = -1) → r = (if 0 ≤ t ∧ t ≤ 3 then -6 else -2) ∧ m' = m)) := by
  refine Ci.of moX11_perform rfl rfl (fun hA hM => ?_)
  show Em Γ (d + 6) MX11_perform _ 0 [rv 0, iv t, uv] [] m
  have hF12 := hI.1
  have hP8 := hI.2.2.1
  have hL3 := hI.2.1
  obtain ⟨n0, n1, n2, n3⟩ := hH.n0
  refine Ev.aload_n (q := 1) dX11_perform_0 rfl rfl ?_
  refine Ev.iload_n (q := 2) dX11_perform_1 rfl rfl ?_
  refine cV1i (q := 5) (d' := d + 5) dX11_perform_2 mlX11_241 moX11_isTray mvX11_isTray k0 rfl rfl rfl (Nat.le_refl _) rfl rfl rfl (p_X11_isTray t) (fun r1 m1 e1 => ?_)
  obtain ⟨rfl, e1⟩ := e1
  obtain rfl := e1.symm
  refine Ev.if_ne (tgt := 11) (q := 8) dX11_perform_5 (by decide) rfl (fun h2 => ?_) (fun h2 => ?_)
  · skip
    have hTT : 0 ≤ t ∧ t ≤ 3 := by split at h2 <;> omega
    obtain ⟨tn, rfl⟩ : ∃ tn : Nat, t = tn := ⟨t.toNat, by omega⟩
    obtain ⟨taK, tar, taK2, taN⟩ := traK (165 + 2 * tn) (traN tn (by omega)).2
    obtain ⟨tm1, tm2⟩ := hT tn (by omega)
    refine Ev.aload_n (q := 12) dX11_perform_11 rfl rfl ?_
    refine gR (q := 15) dX11_perform_12 gfX11_53 k0 r0_9 rfl rfl ?_
    refine Ev.iload_n (q := 16) dX11_perform_15 rfl rfl ?_
    refine aR (q := 17) (k := tn) dX11_perform_16 k61 (by decide) (by first | rfl | omega | (simp (disch := omega) only [w32_of]; omega)) (by omega) (traN tn (by omega)).1 rfl ?_
    refine cV0i (q := 20) (d' := d + 5) dX11_perform_17 mlX11_244 moX9_isMissing mvX9_isMissing taK rfl rfl rfl (Nat.le_refl _) rfl rfl rfl (p_X9_isMissing (165 + 2 * tn) (traN tn (by omega)).2) (fun r3 m3 e3 => ?_)
    obtain ⟨rfl, e3⟩ := e3
    obtain rfl := e3.symm
    refine Ev.if_eq (tgt := 26) (q := 23) dX11_perform_20 (by decide) rfl (fun h4 => ?_) (fun h4 => ?_)
    · skip
      have hms : ¬ sort tn = -1 := fun z => by rw [if_pos (tm1 z)] at h4; exact absurd h4 (by decide)
      obtain ⟨u0, u1, u2, u3, u4⟩ := tm2 hms
      refine Ev.aload_n (q := 27) dX11_perform_26 rfl rfl ?_
      refine cV0v (q := 30) (d' := d + 5) dX11_perform_27 mlX11_204 moX11_keepBefore mvX11_keepBefore k0 rfl rfl rfl (Nat.le_refl _) rfl rfl rfl (p_X11_keepBefore pa hpa h7) (fun r5 m5 e5 => ?_)
      obtain ⟨M1, rfl⟩ : ∃ M1, M1 = m5 := ⟨_, rfl⟩
      obtain ⟨k1, f1⟩ := e5
      have hH1 : HouR g M1 33 := hH.keep (fun a h1 h2 => f1.row a (fun _ => sN_f (by omega)))
      have hN1 : NowR g M1 44 := hN.keep (fun a h1 h2 => f1.row a (fun _ => sN_f (by omega)))
      have hP1 : NowR g M1 (77 + 8 * pa) := NowR.copy hL3.2 hP8.2 hN k1
      have F1 : Fr (sDd pa) m M1 := f1.dd1
      have c7 : M1 0 7 = pa := by rw [f1 0 7 (sN_f (by omega))]; exact h7
      have c8 : M1 0 8 = n := by rw [f1 0 8 (sN_f (by omega))]; exact h8
      refine Ev.aload_n (q := 31) dX11_perform_30 rfl rfl ?_
      refine gR (q := 34) dX11_perform_31 gfX11_80 k0 r0_14 rfl rfl ?_
      refine Ev.aload_n (q := 35) dX11_perform_34 rfl rfl ?_
      refine gR (q := 38) dX11_perform_35 gfX11_34 k0 r0_4 rfl rfl ?_
      refine Ev.aload_n (q := 39) dX11_perform_38 rfl rfl ?_
      refine gR (q := 42) dX11_perform_39 gfX11_53 k0 r0_9 rfl rfl ?_
      refine Ev.iload_n (q := 43) dX11_perform_42 rfl rfl ?_
      refine aR (q := 44) (k := tn) dX11_perform_43 k61 (by decide) (by first | rfl | omega | (simp (disch := omega) only [w32_of]; omega)) (by omega) (traN tn (by omega)).1 rfl ?_
      refine cV2i (q := 47) (d' := d + 5) dX11_perform_44 mlX11_248 moX0_doAll mvX0_doAll k66 rfl rfl rfl (Nat.le_refl _) rfl rfl rfl (p_X0_doAll g 44 (165 + 2 * tn) (many tn) (num tn) (by decide) hI hH1 hN1 (traN tn (by omega)).2 (Or.inl rfl) u3 (by rw [f1 _ _ (sN_f (by omega))]; exact u0) (fun i hi => by rw [f1 _ _ (sN_f (by omega))]; exact u4 i hi)) (fun r6 m6 e6 => ?_)
      obtain ⟨M2, rfl⟩ : ∃ M2, M2 = m6 := ⟨_, rfl⟩
      obtain ⟨y1, y2, y3, f2⟩ := e6
      subst y1
      have F2 : Fr (sDd pa) m M2 := F1.tr f2.dd3
      have d7 : M2 0 7 = pa := by rw [f2 0 7 (sDf_f (by omega) (by omega) (by omega))]; exact c7
      have d8 : M2 0 8 = n := by rw [f2 0 8 (sDf_f (by omega) (by omega) (by omega))]; exact c8
      have hP2 : NowR g M2 (77 + 8 * pa) := hP1.keep (fun a h1 h2 => f2.row a (fun _ => sDf_f (by omega) (by omega) (by omega)))
      refine istore_n_2 (q := 48) dX11_perform_47 rfl rfl rfl ?_
      refine Ev.iload_n (q := 49) dX11_perform_48 rfl rfl ?_
      refine Ev.if_le (tgt := 56) (q := 52) dX11_perform_49 (by decide) rfl (fun h7 => ?_) (fun h7 => ?_)
      · skip
        refine Ev.iload_n (q := 57) dX11_perform_56 rfl rfl ?_
        refine rI dX11_perform_57 rfl ?_
        exact ⟨fun _ => ⟨rfl, fun z => absurd (show 0 < (telN (num tn) (many tn) 0 g).2.1 from z) (by omega), fun _ => ⟨y2, d7, d8⟩, F2⟩, fun z => absurd ⟨hTT, hms⟩ z⟩
      · skip
        refine Ev.aload_n (q := 53) dX11_perform_52 rfl rfl ?_
        refine cV0v (q := 56) (d' := d + 5) dX11_perform_53 mlX11_211 moX11_countBefore mvX11_countBefore k0 rfl rfl rfl (Nat.le_refl _) rfl rfl rfl (p_X11_countBefore pa n hpa hn d7 d8) (fun r8 m8 e8 => ?_)
        obtain ⟨M3, rfl⟩ : ∃ M3, M3 = m8 := ⟨_, rfl⟩
        have hE : M3 = up (up M2 0 7 (((pa + 1) % 11 : Nat) : Int)) 0 8 ((if n < 10 then n + 1 else 10 : Nat) : Int) := e8
        have R3 : NowR ((telN (num tn) (many tn) 0 g).2.2) M3 44 := by rw [hE]; exact y2.keep (fun a h1 h2 => by rw [up_na _ _ (by omega), up_na _ _ (by omega)])
        have DK : DOk g ((telN (num tn) (many tn) 0 g).2.2) pa n M3 := ⟨R3, by rw [hE]; exact hP2.keep (fun a h1 h2 => by rw [up_na _ _ (by omega), up_na _ _ (by omega)]), by rw [hE, up_k _ _ (by decide), up_eq], by rw [hE, up_eq]⟩
        have F3 : Fr (sDd pa) m M3 := by rw [hE]; exact (F2.up (sDd_7 pa)).up (sDd_8 pa)
        refine Ev.iload_n (q := 57) dX11_perform_56 rfl rfl ?_
        refine rI dX11_perform_57 rfl ?_
        exact ⟨fun _ => ⟨rfl, fun _ => DK, fun z => absurd (show 0 < (telN (num tn) (many tn) 0 g).2.1 by omega) z, F3⟩, fun z => absurd ⟨hTT, hms⟩ z⟩
    · skip
      have hms : sort tn = -1 := Classical.byContradiction fun z => by rw [if_neg (by rw [(tm2 z).1]; omega)] at h4; exact absurd rfl h4
      refine Ev.bipush (q := 25) dX11_perform_23 kb_m6 rfl ?_
      refine rI dX11_perform_25 rfl ?_
      exact ⟨fun z => absurd hms z.2, fun _ => ⟨by rw [if_pos hTT], rfl⟩⟩
  · skip
    have hTT : ¬ (0 ≤ t ∧ t ≤ 3) := by split at h2 <;> omega
    refine Ev.bipush (q := 10) dX11_perform_8 kb_m2 rfl ?_
    refine rI dX11_perform_10 rfl ?_
    exact ⟨fun z => absurd z.1 hTT, fun _ => ⟨by rw [if_neg hTT], rfl⟩⟩
set_option maxRecDepth 4000 in
theorem p_X11_evenings {Γ : Gm} {d : Nat} {m : Mem} (g : Row) (pa n : Nat) (sd k : Int) (hI : HI g) (hH : HouR g m 33) (hN : NowR g m 44) (hpa : pa < 11) (hn : n ≤ 10) (h7 : m 0 7 = pa) (h8 : m 0 8 = n) : Ci Γ (d + 6) MX11_evenings [rv 0, iv sd, iv k] m (fun r m' => (((1 ≤ k ∧ k ≤ 40) ∧ ¬ g 2 = 0 ∧ ¬ g 3 = 0) → r = ((eveV g sd k.toNat).1 : Int) ∧ (0 < (eveV g sd k.toNat).1 → DOk g (eveV g sd k.toNat).2 pa n m') ∧ (¬ 0 < (eveV g sd k.toNat).1 → DNo (eveV g sd k.toNat).2 pa n m') ∧ Fr (sDd pa) m m') ∧ (¬ ((1 ≤ k ∧ k ≤ 40) ∧ ¬ g 2 = 0 ∧ ¬ g 3 = 0) → r = (if 1 ≤ k ∧ k ≤ 40 then -5 else -3) ∧ m' = m)) := by
  refine Ci.of moX11_evenings rfl rfl (fun hA hM => ?_)
  show Em Γ (d + 6) MX11_evenings _ 0 [rv 0, iv sd, iv k, uv] [] m
  have hF12 := hI.1
  have hP8 := hI.2.2.1
  have hL3 := hI.2.1
  obtain ⟨n0, n1, n2, n3⟩ := hH.n0
  refine Ev.iload_n (q := 1) dX11_evenings_0 rfl rfl ?_
  refine Ev.iconst (q := 2) dX11_evenings_1 ki_1 rfl ?_
  refine Ev.icmp_lt (tgt := 11) (q := 5) dX11_evenings_2 (by decide) rfl (fun h1 => ?_) (fun h1 => ?_)
  · skip
    refine Ev.bipush (q := 13) dX11_evenings_11 kb_m3 rfl ?_
    refine rI dX11_evenings_13 rfl ?_
    exact ⟨fun z => absurd z.1 (by omega), fun _ => ⟨by rw [if_neg (by omega)], rfl⟩⟩
  · skip
    refine Ev.iload_n (q := 6) dX11_evenings_5 rfl rfl ?_
    refine Ev.bipush (q := 8) dX11_evenings_6 kb_40 rfl ?_
    refine Ev.icmp_le (tgt := 14) (q := 11) dX11_evenings_8 (by decide) rfl (fun h2 => ?_) (fun h2 => ?_)
    · skip
      refine Ev.aload_n (q := 15) dX11_evenings_14 rfl rfl ?_
      refine gR (q := 18) dX11_evenings_15 gfX11_27 k0 r0_3 rfl rfl ?_
      refine gI (q := 21) dX11_evenings_18 gfX11_262 k33 rfl rfl ?_
      rw [n2]
      refine Ev.if_eq (tgt := 34) (q := 24) dX11_evenings_21 (by decide) rfl (fun h3 => ?_) (fun h3 => ?_)
      · skip
        refine Ev.bipush (q := 36) dX11_evenings_34 kb_m5 rfl ?_
        refine rI dX11_evenings_36 rfl ?_
        exact ⟨fun z => absurd z (by omega), fun _ => ⟨by rw [if_pos (by omega)], rfl⟩⟩
      · skip
        refine Ev.aload_n (q := 25) dX11_evenings_24 rfl rfl ?_
        refine gR (q := 28) dX11_evenings_25 gfX11_27 k0 r0_3 rfl rfl ?_
        refine gI (q := 31) dX11_evenings_28 gfX11_265 k33 rfl rfl ?_
        rw [n3]
        refine Ev.if_ne (tgt := 37) (q := 34) dX11_evenings_31 (by decide) rfl (fun h4 => ?_) (fun h4 => ?_)
        · skip
          obtain ⟨kn, rfl⟩ : ∃ kn : Nat, k = kn := ⟨k.toNat, by omega⟩
          refine Ev.aload_n (q := 38) dX11_evenings_37 rfl rfl ?_
          refine cV0v (q := 41) (d' := d + 5) dX11_evenings_38 mlX11_204 moX11_keepBefore mvX11_keepBefore k0 rfl rfl rfl (Nat.le_refl _) rfl rfl rfl (p_X11_keepBefore pa hpa h7) (fun r5 m5 e5 => ?_)
          obtain ⟨M1, rfl⟩ : ∃ M1, M1 = m5 := ⟨_, rfl⟩
          obtain ⟨k1, f1⟩ := e5
          have hH1 : HouR g M1 33 := hH.keep (fun a h1 h2 => f1.row a (fun _ => sN_f (by omega)))
          have hN1 : NowR g M1 44 := hN.keep (fun a h1 h2 => f1.row a (fun _ => sN_f (by omega)))
          have hP1 : NowR g M1 (77 + 8 * pa) := NowR.copy hL3.2 hP8.2 hN k1
          have F1 : Fr (sDd pa) m M1 := f1.dd1
          have c7 : M1 0 7 = pa := by rw [f1 0 7 (sN_f (by omega))]; exact h7
          have c8 : M1 0 8 = n := by rw [f1 0 8 (sN_f (by omega))]; exact h8
          refine Ev.aload_n (q := 42) dX11_evenings_41 rfl rfl ?_
          refine gR (q := 45) dX11_evenings_42 gfX11_80 k0 r0_14 rfl rfl ?_
          refine Ev.aload_n (q := 46) dX11_evenings_45 rfl rfl ?_
          refine gR (q := 49) dX11_evenings_46 gfX11_34 k0 r0_4 rfl rfl ?_
          refine Ev.iload_n (q := 50) dX11_evenings_49 rfl rfl ?_
          refine Ev.iload_n (q := 51) dX11_evenings_50 rfl rfl ?_
          refine cV3i (q := 54) (d' := d + 5) dX11_evenings_51 mlX11_268 moX0_drawAll mvX0_drawAll k66 rfl rfl rfl (Nat.le_refl _) rfl rfl rfl (p_X0_drawAll g 44 kn sd (by decide) hI hH1 hN1 (Or.inl rfl) (by omega) (by omega) (by omega)) (fun r6 m6 e6 => ?_)
          obtain ⟨M2, rfl⟩ : ∃ M2, M2 = m6 := ⟨_, rfl⟩
          obtain ⟨y1, y2, f2⟩ := e6
          subst y1
          have F2 : Fr (sDd pa) m M2 := F1.tr f2.dd3
          have d7 : M2 0 7 = pa := by rw [f2 0 7 (sDf_f (by omega) (by omega) (by omega))]; exact c7
          have d8 : M2 0 8 = n := by rw [f2 0 8 (sDf_f (by omega) (by omega) (by omega))]; exact c8
          have hP2 : NowR g M2 (77 + 8 * pa) := hP1.keep (fun a h1 h2 => f2.row a (fun _ => sDf_f (by omega) (by omega) (by omega)))
          refine istore_n_3 (q := 55) dX11_evenings_54 rfl rfl rfl ?_
          refine Ev.iload_n (q := 56) dX11_evenings_55 rfl rfl ?_
          refine Ev.if_le (tgt := 63) (q := 59) dX11_evenings_56 (by decide) rfl (fun h7 => ?_) (fun h7 => ?_)
          · skip
            refine Ev.iload_n (q := 64) dX11_evenings_63 rfl rfl ?_
            refine rI dX11_evenings_64 rfl ?_
            exact ⟨fun _ => ⟨rfl, fun z => absurd (show 0 < (eveV g sd kn).1 from z) (by omega), fun _ => ⟨y2, d7, d8⟩, F2⟩, fun z => absurd (by omega) z⟩
          · skip
            refine Ev.aload_n (q := 60) dX11_evenings_59 rfl rfl ?_
            refine cV0v (q := 63) (d' := d + 5) dX11_evenings_60 mlX11_211 moX11_countBefore mvX11_countBefore k0 rfl rfl rfl (Nat.le_refl _) rfl rfl rfl (p_X11_countBefore pa n hpa hn d7 d8) (fun r8 m8 e8 => ?_)
            obtain ⟨M3, rfl⟩ : ∃ M3, M3 = m8 := ⟨_, rfl⟩
            have hE : M3 = up (up M2 0 7 (((pa + 1) % 11 : Nat) : Int)) 0 8 ((if n < 10 then n + 1 else 10 : Nat) : Int) := e8
            have R3 : NowR ((eveV g sd kn).2) M3 44 := by rw [hE]; exact y2.keep (fun a h1 h2 => by rw [up_na _ _ (by omega), up_na _ _ (by omega)])
            have DK : DOk g ((eveV g sd kn).2) pa n M3 := ⟨R3, by rw [hE]; exact hP2.keep (fun a h1 h2 => by rw [up_na _ _ (by omega), up_na _ _ (by omega)]), by rw [hE, up_k _ _ (by decide), up_eq], by rw [hE, up_eq]⟩
            have F3 : Fr (sDd pa) m M3 := by rw [hE]; exact (F2.up (sDd_7 pa)).up (sDd_8 pa)
            refine Ev.iload_n (q := 64) dX11_evenings_63 rfl rfl ?_
            refine rI dX11_evenings_64 rfl ?_
            exact ⟨fun _ => ⟨rfl, fun _ => DK, fun z => absurd (show 0 < (eveV g sd kn).1 by omega) z, F3⟩, fun z => absurd (by omega) z⟩
        · skip
          refine Ev.bipush (q := 36) dX11_evenings_34 kb_m5 rfl ?_
          refine rI dX11_evenings_36 rfl ?_
          exact ⟨fun z => absurd z (by omega), fun _ => ⟨by rw [if_pos (by omega)], rfl⟩⟩
    · skip
      refine Ev.bipush (q := 13) dX11_evenings_11 kb_m3 rfl ?_
      refine rI dX11_evenings_13 rfl ?_
      exact ⟨fun z => absurd z.1 (by omega), fun _ => ⟨by rw [if_neg (by omega)], rfl⟩⟩
