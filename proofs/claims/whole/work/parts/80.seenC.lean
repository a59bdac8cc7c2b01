/-! ===== the class: what was seen, its answers ===== -/
theorem badS_2 {g num : Row} {k : Nat} (hk : k % 2 = 0) : badS g num (k + 2) = (badS g num k || (!isF g (num k) || decide (num (k + 1) < 0))) := by
  conv => lhs; unfold badS
  rw [if_neg (show ¬ (k + 1) % 2 = 0 by omega)]
  conv => lhs; lhs; unfold badS
  rw [if_pos hk, Bool.or_assoc]
theorem nosV_t {g num : Row} {sort : Int} {many : Nat} {t l : Int} (h : ¬ ((0 ≤ t ∧ t ≤ 3) ∧ (0 ≤ l ∧ l < g 2))) : nosV g num sort many t l = -2 := by
  unfold nosV isL
  rw [if_pos]
  by_cases q : 0 ≤ t ∧ t ≤ 3
  · exact Or.inr (decide_eq_false (fun z => h ⟨q, z⟩))
  · exact Or.inl q
theorem nosV_n {g num : Row} {sort : Int} {many : Nat} {t l : Int} (h1 : 0 ≤ t ∧ t ≤ 3) (h2 : 0 ≤ l ∧ l < g 2) : nosV g num sort many t l = if sort = -1 then -6 else if many % 2 = 1 ∨ ¬ (2 ≤ many ∧ many ≤ 16) then -4 else if badS g num many = true then -3 else 0 := by
  unfold nosV isL
  rw [if_neg]
  rw [decide_eq_true h2]
  intro z
  rcases z with z | z
  · exact z h1
  · cases z
set_option maxRecDepth 4000 in
theorem lc_gatherSets {Γ : Gm} {d : Nat} {m : Mem} (g num : Row) (c t l N : Nat) (hc : c ∈ traC) (hI : HI g) (hl : (l : Int) < g 2) (hH : HouR g m 33) (hN : NowR g m 44) (hN8 : N ≤ 8) (h0 : m c 0 = ((2 * N : Nat) : Int)) (hnum : ∀ i, i < 2 * N → m (c + 1) i = num i) : ∀ (n i : Nat), i + 2 * n = 2 * N → i % 2 = 0 → badS g num i = false → Em Γ (d + 5) MX11_gatherSets (fun r m' => r = (if badS g num (2 * N) = true then -3 else 0) ∧ (r = 0 → GI g num l N m' (2 ^ (g 1).toNat)) ∧ Fr sC m m') 71 [rv 0, iv t, iv l, rv c, iv i] [] m := by
  have hF12 := hI.1
  have hP8 := hI.2.2.1
  have hL3 := hI.2.1
  obtain ⟨taK, tar, taK2, taN⟩ := traK c hc
  have n0 : m 33 0 = g 1 := hH.n0.1
  intro n
  induction n with
  | zero =>
    intro i hi hi2 hb
    refine Ev.iload (q := 73) dX11_gatherSets_71 rfl rfl ?_
    refine Ev.aload_n (q := 74) dX11_gatherSets_73 rfl rfl ?_
    refine gI (q := 77) dX11_gatherSets_74 gfX11_398 taK rfl rfl ?_
    rw [h0]
    refine Ev.icmp_ge (tgt := 131) (q := 80) dX11_gatherSets_77 (by decide) rfl (fun h1 => ?_) (fun h1 => ?_)
    · skip
      refine Ev.aload_n (q := 132) dX11_gatherSets_131 rfl rfl ?_
      refine gR (q := 135) dX11_gatherSets_132 gfX11_103 k0 r0_17 rfl rfl ?_
      refine Ev.aload_n (q := 136) dX11_gatherSets_135 rfl rfl ?_
      refine Ev.iload_n (q := 137) dX11_gatherSets_136 rfl rfl ?_
      refine cV2v (q := 140) (d' := d + 4) dX11_gatherSets_137 mlX11_405 moX7_gather mvX7_gather k74 rfl rfl rfl (Nat.le_refl _) rfl rfl rfl (p_X7_gather g num c l N hc hI hl hH hN hN8 h0 hnum) (fun r2 m2 e2 => ?_)
      obtain ⟨y1, y2⟩ := e2
      refine Ev.iconst (q := 141) dX11_gatherSets_140 ki_0 rfl ?_
      refine rI dX11_gatherSets_141 rfl ?_
      obtain rfl : i = 2 * N := by omega
      rw [hb]
      exact ⟨rfl, fun _ => y1, y2.CSi⟩
    · skip
      omega
  | succ n ih =>
    intro i hi hi2 hb

    refine Ev.iload (q := 73) dX11_gatherSets_71 rfl rfl ?_
    refine Ev.aload_n (q := 74) dX11_gatherSets_73 rfl rfl ?_
    refine gI (q := 77) dX11_gatherSets_74 gfX11_398 taK rfl rfl ?_
    rw [h0]
    refine Ev.icmp_ge (tgt := 131) (q := 80) dX11_gatherSets_77 (by decide) rfl (fun h1 => ?_) (fun h1 => ?_)
    · skip
      omega
    · skip
      refine Ev.aload_n (q := 81) dX11_gatherSets_80 rfl rfl ?_
      refine Ev.iload (q := 83) dX11_gatherSets_81 rfl rfl ?_
      refine cV1j (q := 86) (d' := d + 4) dX11_gatherSets_83 mlX11_401 moX9_get mvX9_get taK rfl rfl rfl (Nat.le_refl _) rfl rfl rfl (p_X9_get c i hc (by omega) (by omega)) (fun r2 m2 e2 => ?_)
      obtain ⟨rfl, e2⟩ := e2
      obtain rfl := e2.symm
      rw [hnum i (by omega)]
      refine Ev.lconst (q := 87) dX11_gatherSets_86 kj_0 rfl ?_
      refine Em.ok (fun hL9 hS9 hM9 => ?_)
      have q1 := okV_j (okA_0 hS9)
      have q2 := okV_j (okA_1 hS9)
      refine Ev.lcmp (q := 88) dX11_gatherSets_87 rfl ?_
      refine Ev.if_lt (tgt := 122) (q := 91) dX11_gatherSets_88 (by decide) rfl (fun h3 => ?_) (fun h3 => ?_)
      · skip
        have hlt : num i < 0 := (lcmp_lt q2 q1).mp h3
        refine Ev.bipush (q := 124) dX11_gatherSets_122 kb_m3 rfl ?_
        refine rI dX11_gatherSets_124 rfl ?_
        have hbk : badS g num (i + 2) = true := by rw [badS_2 (by omega), hb]; unfold isF; rw [decide_eq_false (show ¬ (0 ≤ num i ∧ num i < g 1) by omega)]; rfl
        rw [if_pos (badS_mono hbk (2 * N) (by omega))]
        exact ⟨rfl, fun z => absurd z (by decide), Fr.rf _ _⟩
      · skip
        have hge : ¬ num i < 0 := fun z => h3 ((lcmp_lt q2 q1).mpr z)
        refine Ev.aload_n (q := 92) dX11_gatherSets_91 rfl rfl ?_
        refine Ev.iload (q := 94) dX11_gatherSets_92 rfl rfl ?_
        refine cV1j (q := 97) (d' := d + 4) dX11_gatherSets_94 mlX11_401 moX9_get mvX9_get taK rfl rfl rfl (Nat.le_refl _) rfl rfl rfl (p_X9_get c i hc (by omega) (by omega)) (fun r4 m4 e4 => ?_)
        obtain ⟨rfl, e4⟩ := e4
        obtain rfl := e4.symm
        rw [hnum i (by omega)]
        refine Ev.aload_n (q := 98) dX11_gatherSets_97 rfl rfl ?_
        refine gR (q := 101) dX11_gatherSets_98 gfX11_27 k0 r0_3 rfl rfl ?_
        refine gI (q := 104) dX11_gatherSets_101 gfX11_351 k33 rfl rfl ?_
        rw [n0]
        refine Ev.i2l (q := 105) dX11_gatherSets_104 rfl ?_
        refine Em.ok (fun hL9 hS9 hM9 => ?_)
        have q3 := okV_j (okA_0 hS9)
        have q4 := okV_j (okA_1 hS9)
        refine Ev.lcmp (q := 106) dX11_gatherSets_105 rfl ?_
        refine Ev.if_ge (tgt := 122) (q := 109) dX11_gatherSets_106 (by decide) rfl (fun h5 => ?_) (fun h5 => ?_)
        · skip
          have hgf : g 1 ≤ num i := (lcmp_ge q4 q3).mp h5
          refine Ev.bipush (q := 124) dX11_gatherSets_122 kb_m3 rfl ?_
          refine rI dX11_gatherSets_124 rfl ?_
          have hbk : badS g num (i + 2) = true := by rw [badS_2 (by omega), hb]; unfold isF; rw [decide_eq_false (show ¬ (0 ≤ num i ∧ num i < g 1) by omega)]; rfl
          rw [if_pos (badS_mono hbk (2 * N) (by omega))]
          exact ⟨rfl, fun z => absurd z (by decide), Fr.rf _ _⟩
        · skip
          have hlf : ¬ g 1 ≤ num i := fun z => h5 ((lcmp_ge q4 q3).mpr z)
          refine Ev.aload_n (q := 110) dX11_gatherSets_109 rfl rfl ?_
          refine Ev.iload (q := 112) dX11_gatherSets_110 rfl rfl ?_
          refine Ev.iconst (q := 113) dX11_gatherSets_112 ki_1 rfl ?_
          refine Ev.iadd (q := 114) dX11_gatherSets_113 rfl ?_
          rw [w32_of (z := (i : Int) + 1) (by omega) (by omega), show (i : Int) + 1 = ((i + 1 : Nat) : Int) by omega]
          refine cV1j (q := 117) (d' := d + 4) dX11_gatherSets_114 mlX11_401 moX9_get mvX9_get taK rfl rfl rfl (Nat.le_refl _) rfl rfl rfl (p_X9_get c (i + 1) hc (by omega) (by omega)) (fun r6 m6 e6 => ?_)
          obtain ⟨rfl, e6⟩ := e6
          obtain rfl := e6.symm
          rw [hnum (i + 1) (by omega)]
          refine Ev.lconst (q := 118) dX11_gatherSets_117 kj_0 rfl ?_
          refine Em.ok (fun hL9 hS9 hM9 => ?_)
          have q5 := okV_j (okA_0 hS9)
          have q6 := okV_j (okA_1 hS9)
          refine Ev.lcmp (q := 119) dX11_gatherSets_118 rfl ?_
          refine Ev.if_ge (tgt := 125) (q := 122) dX11_gatherSets_119 (by decide) rfl (fun h7 => ?_) (fun h7 => ?_)
          · skip
            have hg1 : 0 ≤ num (i + 1) := (lcmp_ge q6 q5).mp h7
            refine iinc_4 (q := 128) dX11_gatherSets_125 rfl rfl rfl ?_
            refine Ev.goto (q := 71) dX11_gatherSets_128 (by decide) ?_
            rw [w32_of (by omega) (by omega)]
            refine ih (i + 2) (by omega) (by omega) ?_
            rw [badS_2 (by omega), hb]
            unfold isF
            rw [decide_eq_true (show 0 ≤ num i ∧ num i < g 1 by omega), decide_eq_false (show ¬ num (i + 1) < 0 by omega)]
            rfl
          · skip
            have hl1 : ¬ 0 ≤ num (i + 1) := fun z => h7 ((lcmp_ge q6 q5).mpr z)
            refine Ev.bipush (q := 124) dX11_gatherSets_122 kb_m3 rfl ?_
            refine rI dX11_gatherSets_124 rfl ?_
            have hbk : badS g num (i + 2) = true := by rw [badS_2 (by omega), hb]; rw [decide_eq_true (show num (i + 1) < 0 by omega)]; simp
            rw [if_pos (badS_mono hbk (2 * N) (by omega))]
            exact ⟨rfl, fun z => absurd z (by decide), Fr.rf _ _⟩
set_option maxRecDepth 4000 in
theorem p_X11_gatherSets {Γ : Gm} {d : Nat} {m : Mem} (g : Row) (sort : Nat → Int) (many : Nat → Nat) (num : Nat → Nat → Int) (t l : Int) (hI : HI g) (hH : HouR g m 33) (hN : NowR g m 44) (hT : ∀ i, i < 4 → TraR m (165 + 2 * i) (sort i) (many i) (num i)) (hsr : ∀ i, i < 4 → sort i = -1 ∨ (0 ≤ sort i ∧ sort i ≤ 3)) : Ci Γ (d + 5) MX11_gatherSets [rv 0, iv t, iv l] m (fun r m' => r = nosV g (num t.toNat) (sort t.toNat) (many t.toNat) t l ∧ (r = 0 → GI g (num t.toNat) l.toNat (many t.toNat / 2) m' (2 ^ (g 1).toNat)) ∧ Fr sC m m') := by
  refine Ci.of moX11_gatherSets rfl rfl (fun hA hM => ?_)
  show Em Γ (d + 5) MX11_gatherSets _ 0 [rv 0, iv t, iv l, uv, uv] [] m
  have hF12 := hI.1
  have hP8 := hI.2.2.1
  have hL3 := hI.2.1
  obtain ⟨n0, n1, n2, n3⟩ := hH.n0
  refine Ev.aload_n (q := 1) dX11_gatherSets_0 rfl rfl ?_
  refine Ev.iload_n (q := 2) dX11_gatherSets_1 rfl rfl ?_
  refine cV1i (q := 5) (d' := d + 4) dX11_gatherSets_2 mlX11_241 moX11_isTray mvX11_isTray k0 rfl rfl rfl (Nat.le_refl _) rfl rfl rfl (p_X11_isTray t) (fun r1 m1 e1 => ?_)
  obtain ⟨rfl, e1⟩ := e1
  obtain rfl := e1.symm
  refine Ev.if_eq (tgt := 19) (q := 8) dX11_gatherSets_5 (by decide) rfl (fun h2 => ?_) (fun h2 => ?_)
  · skip
    have hTT : ¬ (0 ≤ t ∧ t ≤ 3) := by split at h2 <;> omega
    refine Ev.bipush (q := 21) dX11_gatherSets_19 kb_m2 rfl ?_
    refine rI dX11_gatherSets_21 rfl ?_
    exact ⟨by rw [nosV_t (by omega)], fun z => absurd z (by decide), Fr.rf _ _⟩
  · skip
    have hTT : 0 ≤ t ∧ t ≤ 3 := by split at h2 <;> omega
    obtain ⟨tn, rfl⟩ : ∃ tn : Nat, t = tn := ⟨t.toNat, by omega⟩
    obtain ⟨taK, tar, taK2, taN⟩ := traK (165 + 2 * tn) (traN tn (by omega)).2
    obtain ⟨tm1, tm2⟩ := hT tn (by omega)
    refine Ev.aload_n (q := 9) dX11_gatherSets_8 rfl rfl ?_
    refine gR (q := 12) dX11_gatherSets_9 gfX11_27 k0 r0_3 rfl rfl ?_
    refine Ev.iload_n (q := 13) dX11_gatherSets_12 rfl rfl ?_
    refine cV1i (q := 16) (d' := d + 4) dX11_gatherSets_13 mlX11_135 moX1_hasLift mvX1_hasLift k33 rfl rfl rfl (Nat.le_refl _) rfl rfl rfl (p_X1_hasLift l) (fun r3 m3 e3 => ?_)
    obtain ⟨rfl, e3⟩ := e3
    obtain rfl := e3.symm
    rw [n2]
    refine Ev.if_ne (tgt := 22) (q := 19) dX11_gatherSets_16 (by decide) rfl (fun h4 => ?_) (fun h4 => ?_)
    · skip
      have hLLln : 0 ≤ l ∧ l < g 2 := by split at h4 <;> omega
      obtain ⟨ln, rfl⟩ : ∃ ln : Nat, l = ln := ⟨l.toNat, by omega⟩
      have hlln : (ln : Int) < g 2 := hLLln.2
      have qlln := hI.lift hlln
      have hlokln := hI.litOk hlln
      have hsln := hlokln.lt hI
      have a1ln : m 45 ln = g (60 + ln) := (hN.1 ln hlln).1
      have a2ln : m 46 ln = g (63 + ln) := (hN.1 ln hlln).2.1
      have a3ln : m 47 ln = ((litV g ln : Nat) : Int) := E47 hI hlln hN
      have a4ln : m 48 ln = g (69 + ln) := (hN.1 ln hlln).2.2.2
      refine Ev.aload_n (q := 23) dX11_gatherSets_22 rfl rfl ?_
      refine gR (q := 26) dX11_gatherSets_23 gfX11_53 k0 r0_9 rfl rfl ?_
      refine Ev.iload_n (q := 27) dX11_gatherSets_26 rfl rfl ?_
      refine aR (q := 28) (k := tn) dX11_gatherSets_27 k61 (by decide) (by first | rfl | omega | (simp (disch := omega) only [w32_of]; omega)) (by omega) (traN tn (by omega)).1 rfl ?_
      refine astore_n_3 (q := 29) dX11_gatherSets_28 rfl rfl rfl ?_
      refine Ev.aload_n (q := 30) dX11_gatherSets_29 rfl rfl ?_
      refine cV0i (q := 33) (d' := d + 4) dX11_gatherSets_30 mlX11_244 moX9_isMissing mvX9_isMissing taK rfl rfl rfl (Nat.le_refl _) rfl rfl rfl (p_X9_isMissing (165 + 2 * tn) (traN tn (by omega)).2) (fun r5 m5 e5 => ?_)
      obtain ⟨rfl, e5⟩ := e5
      obtain rfl := e5.symm
      refine Ev.if_eq (tgt := 39) (q := 36) dX11_gatherSets_33 (by decide) rfl (fun h6 => ?_) (fun h6 => ?_)
      · skip
        have hms : ¬ sort tn = -1 := fun z => by rw [if_pos (tm1 z)] at h6; exact absurd h6 (by decide)
        obtain ⟨u0, u1, u2, u3, u4⟩ := tm2 hms
        refine Ev.aload_n (q := 40) dX11_gatherSets_39 rfl rfl ?_
        refine gI (q := 43) dX11_gatherSets_40 gfX11_398 taK rfl rfl ?_
        rw [u0]
        refine Ev.iconst (q := 44) dX11_gatherSets_43 ki_2 rfl ?_
        refine Ev.icmp_lt (tgt := 65) (q := 47) dX11_gatherSets_44 (by decide) rfl (fun h7 => ?_) (fun h7 => ?_)
        · skip
          refine Ev.bipush (q := 67) dX11_gatherSets_65 kb_m4 rfl ?_
          refine rI dX11_gatherSets_67 rfl ?_
          have hm4 : many tn % 2 = 1 ∨ ¬ (2 ≤ many tn ∧ many tn ≤ 16) := by omega
          exact ⟨by simp only [Int.toNat_natCast]; rw [nosV_n (by omega) (by omega), if_neg hms, if_pos hm4], fun z => absurd z (by decide), Fr.rf _ _⟩
        · skip
          refine Ev.aload_n (q := 48) dX11_gatherSets_47 rfl rfl ?_
          refine gI (q := 51) dX11_gatherSets_48 gfX11_398 taK rfl rfl ?_
          rw [u0]
          refine Ev.bipush (q := 53) dX11_gatherSets_51 kb_16 rfl ?_
          refine Ev.icmp_gt (tgt := 65) (q := 56) dX11_gatherSets_53 (by decide) rfl (fun h8 => ?_) (fun h8 => ?_)
          · skip
            refine Ev.bipush (q := 67) dX11_gatherSets_65 kb_m4 rfl ?_
            refine rI dX11_gatherSets_67 rfl ?_
            have hm4 : many tn % 2 = 1 ∨ ¬ (2 ≤ many tn ∧ many tn ≤ 16) := by omega
            exact ⟨by simp only [Int.toNat_natCast]; rw [nosV_n (by omega) (by omega), if_neg hms, if_pos hm4], fun z => absurd z (by decide), Fr.rf _ _⟩
          · skip
            refine Ev.aload_n (q := 57) dX11_gatherSets_56 rfl rfl ?_
            refine gI (q := 60) dX11_gatherSets_57 gfX11_398 taK rfl rfl ?_
            rw [u0]
            refine Ev.iconst (q := 61) dX11_gatherSets_60 ki_2 rfl ?_
            refine Ev.irem (q := 62) dX11_gatherSets_61 (by decide) rfl ?_
            rw [show (2 : Int) = ((2 : Nat) : Int) from rfl, irem_n (by omega) (by decide) (by decide)]
            refine Ev.if_eq (tgt := 68) (q := 65) dX11_gatherSets_62 (by decide) rfl (fun h9 => ?_) (fun h9 => ?_)
            · skip
              refine Ev.iconst (q := 69) dX11_gatherSets_68 ki_0 rfl ?_
              refine istore_4 (q := 71) dX11_gatherSets_69 rfl rfl rfl ?_
              obtain ⟨N, hNN⟩ : ∃ N, many tn = 2 * N := ⟨many tn / 2, by omega⟩
              refine (lc_gatherSets g (num tn) (165 + 2 * tn) tn ln N (traN tn (by omega)).2 hI hlln hH hN (by omega) (by rw [u0, hNN]) (fun i hi => u4 i (by omega)) N 0 (by omega) (by omega) rfl).imp ?_
              intro r9 m9 h9
              simp only [Int.toNat_natCast]
              rw [nosV_n (by omega) (by omega), if_neg hms, if_neg (by omega), hNN, show 2 * N / 2 = N by omega]
              exact h9
            · skip
              refine Ev.bipush (q := 67) dX11_gatherSets_65 kb_m4 rfl ?_
              refine rI dX11_gatherSets_67 rfl ?_
              have hm4 : many tn % 2 = 1 ∨ ¬ (2 ≤ many tn ∧ many tn ≤ 16) := by omega
              exact ⟨by simp only [Int.toNat_natCast]; rw [nosV_n (by omega) (by omega), if_neg hms, if_pos hm4], fun z => absurd z (by decide), Fr.rf _ _⟩
      · skip
        have hms : sort tn = -1 := Classical.byContradiction fun z => by rw [if_neg (by rw [(tm2 z).1]; omega)] at h6; exact absurd rfl h6
        refine Ev.bipush (q := 38) dX11_gatherSets_36 kb_m6 rfl ?_
        refine rI dX11_gatherSets_38 rfl ?_
        exact ⟨by simp only [Int.toNat_natCast]; rw [nosV_n (by omega) (by omega), if_pos hms], fun z => absurd z (by decide), Fr.rf _ _⟩
    · skip
      have hLL : ¬ (0 ≤ l ∧ l < g 2) := by split at h4 <;> omega
      refine Ev.bipush (q := 21) dX11_gatherSets_19 kb_m2 rfl ?_
      refine rI dX11_gatherSets_21 rfl ?_
      exact ⟨by rw [nosV_t (by omega)], fun z => absurd z (by decide), Fr.rf _ _⟩
set_option maxRecDepth 4000 in
theorem p_X11_seen {Γ : Gm} {d : Nat} {m : Mem} (g : Row) (sort : Nat → Int) (many : Nat → Nat) (num : Nat → Nat → Int) (t l : Int) (hI : HI g) (hH : HouR g m 33) (hN : NowR g m 44) (hT : ∀ i, i < 4 → TraR m (165 + 2 * i) (sort i) (many i) (num i)) (hsr : ∀ i, i < 4 → sort i = -1 ∨ (0 ≤ sort i ∧ sort i ≤ 3)) : Ci Γ (d + 6) MX11_seen [rv 0, iv t, iv l] m (fun r m' => r = q_seen g (num t.toNat) (sort t.toNat) (many t.toNat) t l ∧ Fr sC m m') := by
  refine Ci.of moX11_seen rfl rfl (fun hA hM => ?_)
  show Em Γ (d + 6) MX11_seen _ 0 [rv 0, iv t, iv l, uv] [] m
  have hF12 := hI.1
  have hP8 := hI.2.2.1
  have hL3 := hI.2.1
  obtain ⟨n0, n1, n2, n3⟩ := hH.n0
  refine Ev.aload_n (q := 1) dX11_seen_0 rfl rfl ?_
  refine Ev.iload_n (q := 2) dX11_seen_1 rfl rfl ?_
  refine Ev.iload_n (q := 3) dX11_seen_2 rfl rfl ?_
  refine cV2i (q := 6) (d' := d + 5) dX11_seen_3 mlX11_360 moX11_gatherSets mvX11_gatherSets k0 rfl rfl rfl (Nat.le_refl _) rfl rfl rfl (p_X11_gatherSets g sort many num t l hI hH hN hT hsr) (fun r1 m1 e1 => ?_)
  obtain ⟨M9, rfl⟩ : ∃ M9, M9 = m1 := ⟨_, rfl⟩
  obtain ⟨y1, y2, y3⟩ := e1
  have hl9 : r1 = 0 → 0 ≤ l ∧ l < g 2 := fun z => Classical.byContradiction fun y => by rw [nosV_t (fun q => y q.2)] at y1; omega
  have ht9 : r1 = 0 → 2 ≤ many t.toNat := fun z => Classical.byContradiction fun y => by
    rw [z] at y1
    unfold nosV at y1
    repeat (first | omega | split at y1)
  obtain ⟨code, hcode⟩ : ∃ code, code = r1 := ⟨_, rfl⟩
  rw [← hcode] at y1 y2 hl9 ht9 ⊢
  clear hcode
  refine istore_n_3 (q := 7) dX11_seen_6 rfl rfl rfl ?_
  refine Ev.iload_n (q := 8) dX11_seen_7 rfl rfl ?_
  refine Ev.if_eq (tgt := 15) (q := 11) dX11_seen_8 (by decide) rfl (fun h2 => ?_) (fun h2 => ?_)
  · skip
    refine Ev.aload_n (q := 16) dX11_seen_15 rfl rfl ?_
    refine gR (q := 19) dX11_seen_16 gfX11_103 k0 r0_17 rfl rfl ?_
    refine gI (q := 22) dX11_seen_19 gfX11_363 k74 rfl rfl ?_
    refine rI dX11_seen_22 rfl ?_
    have hG := y2 (by assumption)
    exact ⟨by unfold q_seen; rw [← y1, if_pos (by assumption)]; exact hG.1, y3⟩
  · skip
    refine Ev.iload_n (q := 12) dX11_seen_11 rfl rfl ?_
    refine Ev.goto (q := 22) dX11_seen_12 (by decide) ?_
    refine rI dX11_seen_22 rfl ?_
    exact ⟨by unfold q_seen; rw [← y1, if_neg (by assumption)], y3⟩
set_option maxRecDepth 4000 in
theorem p_X11_sure {Γ : Gm} {d : Nat} {m : Mem} (g : Row) (sort : Nat → Int) (many : Nat → Nat) (num : Nat → Nat → Int) (t l : Int) (hI : HI g) (hH : HouR g m 33) (hN : NowR g m 44) (hT : ∀ i, i < 4 → TraR m (165 + 2 * i) (sort i) (many i) (num i)) (hsr : ∀ i, i < 4 → sort i = -1 ∨ (0 ≤ sort i ∧ sort i ≤ 3)) : Ci Γ (d + 6) MX11_sure [rv 0, iv t, iv l] m (fun r m' => r = q_sure g (num t.toNat) (sort t.toNat) (many t.toNat) t l ∧ Fr sC m m') := by
  refine Ci.of moX11_sure rfl rfl (fun hA hM => ?_)
  show Em Γ (d + 6) MX11_sure _ 0 [rv 0, iv t, iv l, uv] [] m
  have hF12 := hI.1
  have hP8 := hI.2.2.1
  have hL3 := hI.2.1
  obtain ⟨n0, n1, n2, n3⟩ := hH.n0
  refine Ev.aload_n (q := 1) dX11_sure_0 rfl rfl ?_
  refine Ev.iload_n (q := 2) dX11_sure_1 rfl rfl ?_
  refine Ev.iload_n (q := 3) dX11_sure_2 rfl rfl ?_
  refine cV2i (q := 6) (d' := d + 5) dX11_sure_3 mlX11_360 moX11_gatherSets mvX11_gatherSets k0 rfl rfl rfl (Nat.le_refl _) rfl rfl rfl (p_X11_gatherSets g sort many num t l hI hH hN hT hsr) (fun r1 m1 e1 => ?_)
  obtain ⟨M9, rfl⟩ : ∃ M9, M9 = m1 := ⟨_, rfl⟩
  obtain ⟨y1, y2, y3⟩ := e1
  have hl9 : r1 = 0 → 0 ≤ l ∧ l < g 2 := fun z => Classical.byContradiction fun y => by rw [nosV_t (fun q => y q.2)] at y1; omega
  have ht9 : r1 = 0 → 2 ≤ many t.toNat := fun z => Classical.byContradiction fun y => by
    rw [z] at y1
    unfold nosV at y1
    repeat (first | omega | split at y1)
  obtain ⟨code, hcode⟩ : ∃ code, code = r1 := ⟨_, rfl⟩
  rw [← hcode] at y1 y2 hl9 ht9 ⊢
  clear hcode
  refine istore_n_3 (q := 7) dX11_sure_6 rfl rfl rfl ?_
  refine Ev.iload_n (q := 8) dX11_sure_7 rfl rfl ?_
  refine Ev.if_eq (tgt := 15) (q := 11) dX11_sure_8 (by decide) rfl (fun h2 => ?_) (fun h2 => ?_)
  · skip
    have h0 : code = 0 := h2
    have hG := y2 h0
    refine Ev.aload_n (q := 16) dX11_sure_15 rfl rfl ?_
    refine gR (q := 19) dX11_sure_16 gfX11_103 k0 r0_17 rfl rfl ?_
    refine cV0i (q := 22) (d' := d + 5) dX11_sure_19 mlX11_366 moX7_inAll mvX7_inAll k74 rfl rfl rfl (Nat.le_refl _) rfl rfl rfl (p_X7_inAll g (num t.toNat) l.toNat (many t.toNat / 2) hG) (fun r3 m3 e3 => ?_)
    obtain ⟨rfl, e3⟩ := e3
    obtain rfl := e3.symm
    refine rI dX11_sure_22 rfl ?_
    refine ⟨?_, y3⟩
    unfold q_sure
    rw [← y1, if_pos h0, surQ_all hI]
    split <;> rfl
  · skip
    refine Ev.iload_n (q := 12) dX11_sure_11 rfl rfl ?_
    refine Ev.goto (q := 22) dX11_sure_12 (by decide) ?_
    refine rI dX11_sure_22 rfl ?_
    exact ⟨by unfold q_sure; rw [← y1, if_neg (by assumption)], y3⟩
set_option maxRecDepth 4000 in
theorem p_X11_look {Γ : Gm} {d : Nat} {m : Mem} (g : Row) (sort : Nat → Int) (many : Nat → Nat) (num : Nat → Nat → Int) (t l : Int) (hI : HI g) (hH : HouR g m 33) (hN : NowR g m 44) (hT : ∀ i, i < 4 → TraR m (165 + 2 * i) (sort i) (many i) (num i)) (hsr : ∀ i, i < 4 → sort i = -1 ∨ (0 ≤ sort i ∧ sort i ≤ 3)) : Ci Γ (d + 6) MX11_look [rv 0, iv t, iv l] m (fun r m' => r = q_look g (num t.toNat) (sort t.toNat) (many t.toNat) t l ∧ Fr sC m m') := by
  refine Ci.of moX11_look rfl rfl (fun hA hM => ?_)
  show Em Γ (d + 6) MX11_look _ 0 [rv 0, iv t, iv l, uv] [] m
  have hF12 := hI.1
  have hP8 := hI.2.2.1
  have hL3 := hI.2.1
  obtain ⟨n0, n1, n2, n3⟩ := hH.n0
  refine Ev.aload_n (q := 1) dX11_look_0 rfl rfl ?_
  refine Ev.iload_n (q := 2) dX11_look_1 rfl rfl ?_
  refine Ev.iload_n (q := 3) dX11_look_2 rfl rfl ?_
  refine cV2i (q := 6) (d' := d + 5) dX11_look_3 mlX11_360 moX11_gatherSets mvX11_gatherSets k0 rfl rfl rfl (Nat.le_refl _) rfl rfl rfl (p_X11_gatherSets g sort many num t l hI hH hN hT hsr) (fun r1 m1 e1 => ?_)
  obtain ⟨M9, rfl⟩ : ∃ M9, M9 = m1 := ⟨_, rfl⟩
  obtain ⟨y1, y2, y3⟩ := e1
  have hl9 : r1 = 0 → 0 ≤ l ∧ l < g 2 := fun z => Classical.byContradiction fun y => by rw [nosV_t (fun q => y q.2)] at y1; omega
  have ht9 : r1 = 0 → 2 ≤ many t.toNat := fun z => Classical.byContradiction fun y => by
    rw [z] at y1
    unfold nosV at y1
    repeat (first | omega | split at y1)
  obtain ⟨code, hcode⟩ : ∃ code, code = r1 := ⟨_, rfl⟩
  rw [← hcode] at y1 y2 hl9 ht9 ⊢
  clear hcode
  refine istore_n_3 (q := 7) dX11_look_6 rfl rfl rfl ?_
  refine Ev.iload_n (q := 8) dX11_look_7 rfl rfl ?_
  refine Ev.if_eq (tgt := 15) (q := 11) dX11_look_8 (by decide) rfl (fun h2 => ?_) (fun h2 => ?_)
  · skip
    have h0 : code = 0 := h2
    have hG := y2 h0
    have hLL := hl9 h0
    obtain ⟨ln, rfl⟩ : ∃ ln : Nat, l = ln := ⟨l.toNat, by omega⟩
    rw [Int.toNat_natCast] at hG
    refine Ev.aload_n (q := 16) dX11_look_15 rfl rfl ?_
    refine gR (q := 19) dX11_look_16 gfX11_103 k0 r0_17 rfl rfl ?_
    refine Ev.iload_n (q := 20) dX11_look_19 rfl rfl ?_
    refine cV1i (q := 23) (d' := d + 5) dX11_look_20 mlX11_369 moX7_mostEven mvX7_mostEven k74 rfl rfl rfl (Nat.le_refl _) rfl rfl rfl (p_X7_mostEven g (num t.toNat) ln (many t.toNat / 2) hI hLL.2 (hH.c y3) (hN.c y3) hG) (fun r3 m3 e3 => ?_)
    obtain ⟨rfl, e3⟩ := e3
    obtain rfl := e3.symm
    refine rI dX11_look_23 rfl ?_
    refine ⟨?_, y3⟩
    unfold q_look
    rw [← y1, if_pos h0, Int.toNat_natCast]
  · skip
    refine Ev.iload_n (q := 12) dX11_look_11 rfl rfl ?_
    refine Ev.goto (q := 23) dX11_look_12 (by decide) ?_
    refine rI dX11_look_23 rfl ?_
    exact ⟨by unfold q_look; rw [← y1, if_neg (by assumption)], y3⟩
set_option maxRecDepth 4000 in
theorem p_X11_odd {Γ : Gm} {d : Nat} {m : Mem} (g : Row) (sort : Nat → Int) (many : Nat → Nat) (num : Nat → Nat → Int) (t l : Int) (hI : HI g) (hH : HouR g m 33) (hN : NowR g m 44) (hT : ∀ i, i < 4 → TraR m (165 + 2 * i) (sort i) (many i) (num i)) (hsr : ∀ i, i < 4 → sort i = -1 ∨ (0 ≤ sort i ∧ sort i ≤ 3)) : Ci Γ (d + 6) MX11_odd [rv 0, iv t, iv l] m (fun r m' => r = q_odd g (num t.toNat) (sort t.toNat) (many t.toNat) t l ∧ Fr sC m m') := by
  refine Ci.of moX11_odd rfl rfl (fun hA hM => ?_)
  show Em Γ (d + 6) MX11_odd _ 0 [rv 0, iv t, iv l, uv] [] m
  have hF12 := hI.1
  have hP8 := hI.2.2.1
  have hL3 := hI.2.1
  obtain ⟨n0, n1, n2, n3⟩ := hH.n0
  refine Ev.aload_n (q := 1) dX11_odd_0 rfl rfl ?_
  refine Ev.iload_n (q := 2) dX11_odd_1 rfl rfl ?_
  refine Ev.iload_n (q := 3) dX11_odd_2 rfl rfl ?_
  refine cV2i (q := 6) (d' := d + 5) dX11_odd_3 mlX11_360 moX11_gatherSets mvX11_gatherSets k0 rfl rfl rfl (Nat.le_refl _) rfl rfl rfl (p_X11_gatherSets g sort many num t l hI hH hN hT hsr) (fun r1 m1 e1 => ?_)
  obtain ⟨M9, rfl⟩ : ∃ M9, M9 = m1 := ⟨_, rfl⟩
  obtain ⟨y1, y2, y3⟩ := e1
  have hl9 : r1 = 0 → 0 ≤ l ∧ l < g 2 := fun z => Classical.byContradiction fun y => by rw [nosV_t (fun q => y q.2)] at y1; omega
  have ht9 : r1 = 0 → 2 ≤ many t.toNat := fun z => Classical.byContradiction fun y => by
    rw [z] at y1
    unfold nosV at y1
    repeat (first | omega | split at y1)
  obtain ⟨code, hcode⟩ : ∃ code, code = r1 := ⟨_, rfl⟩
  rw [← hcode] at y1 y2 hl9 ht9 ⊢
  clear hcode
  refine istore_n_3 (q := 7) dX11_odd_6 rfl rfl rfl ?_
  refine Ev.iload_n (q := 8) dX11_odd_7 rfl rfl ?_
  refine Ev.if_eq (tgt := 13) (q := 11) dX11_odd_8 (by decide) rfl (fun h2 => ?_) (fun h2 => ?_)
  · skip
    have h0 : code = 0 := h2
    have hG := y2 h0
    have h2m := ht9 h0
    have hoe := odN_eq (g := g) (nm := num t.toNat) (l := l.toNat) (N := many t.toNat / 2) (by omega) (many t.toNat / 2) 1 (by omega) (by omega) (by omega)
    refine Ev.aload_n (q := 14) dX11_odd_13 rfl rfl ?_
    refine gR (q := 17) dX11_odd_14 gfX11_103 k0 r0_17 rfl rfl ?_
    refine gI (q := 20) dX11_odd_17 gfX11_363 k74 rfl rfl ?_
    rw [hG.1]
    refine Ev.if_le (tgt := 27) (q := 23) dX11_odd_20 (by decide) rfl (fun h3 => ?_) (fun h3 => ?_)
    · skip
      refine Ev.aload_n (q := 28) dX11_odd_27 rfl rfl ?_
      refine gR (q := 31) dX11_odd_28 gfX11_103 k0 r0_17 rfl rfl ?_
      refine gI (q := 34) dX11_odd_31 gfX11_372 k74 rfl rfl ?_
      refine rI dX11_odd_34 rfl ?_
      exact ⟨by unfold q_odd; rw [← y1, if_pos h0, hoe, if_neg (by omega), hG.2.1], y3⟩
    · skip
      refine Ev.iconst (q := 24) dX11_odd_23 ki_m1 rfl ?_
      refine Ev.goto (q := 34) dX11_odd_24 (by decide) ?_
      refine rI dX11_odd_34 rfl ?_
      exact ⟨by unfold q_odd; rw [← y1, if_pos h0, hoe, if_pos (by omega)], y3⟩
  · skip
    refine Ev.iload_n (q := 12) dX11_odd_11 rfl rfl ?_
    refine rI dX11_odd_12 rfl ?_
    exact ⟨by unfold q_odd; rw [← y1, if_neg (by assumption)], y3⟩
