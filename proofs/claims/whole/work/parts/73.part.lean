/-! ===== the class: plans for two lifts ===== -/
theorem tkS_yes {g : Row} {l k fl n : Nat} {t0 : Int} (h1 : parted g l k n = true) (h2 : fl.testBit (g (28 + n)).toNat = true) : tkS g l k fl t0 (n + 1) = if tkS g l k fl t0 n < g (80 + n) then g (80 + n) else tkS g l k fl t0 n := by
  conv => lhs; unfold tkS
  by_cases h : tkS g l k fl t0 n < g (80 + n)
  · rw [if_pos h, if_pos ⟨h1, h2, h⟩]
  · rw [if_neg h, if_neg (fun z => h z.2.2)]
theorem tkS_no {g : Row} {l k fl n : Nat} {t0 : Int} (h : ¬ (parted g l k n = true ∧ fl.testBit (g (28 + n)).toNat = true)) : tkS g l k fl t0 (n + 1) = tkS g l k fl t0 n := by
  conv => lhs; unfold tkS; rw [if_neg (fun z => h ⟨z.1, z.2.1⟩)]
theorem dif_z0 (s : Nat) : dif 0 s = 0 := by unfold dif; simp
theorem dif_0 (s : Nat) : dif s 0 = s := by unfold dif; simp
theorem prt_start {g : Row} (hI : HI g) (l k : Nat) (fs : Int) : prtV g l k fs = prt (parV g l k) (hms g l k (g 3).toNat) (hms g l k (g 3).toNat) 1 (takV g k l k (hms g l k (g 3).toNat)) 0 := by
  have hb := takV_bd hI k l k (hms g l k (g 3).toNat)
  have e0 : parV g l k 0 = takV g k l k (hms g l k (g 3).toNat) := by
    unfold parV
    rw [takV_z, dif_0, Int.zero_add, w64_of (by omega) (by omega)]
  unfold prtV
  conv => lhs; unfold prt; rw [if_neg (show ¬ dif 0 (hms g l k (g 3).toNat) ≠ 0 from fun z => z (dif_z0 _)), e0, if_pos (show takV g k l k (hms g l k (g 3).toNat) < 1000000000000000 by omega)]
  rfl
theorem prt_skip {val : Nat → Int} {hs n s : Nat} {ls fs : Int} (h : dif s hs ≠ 0) : prt val hs (n + 1) s ls fs = prt val hs n (s + 1) ls fs := by conv => lhs; unfold prt; rw [if_pos h]
theorem prt_take {val : Nat → Int} {hs n s : Nat} {ls fs : Int} (h : ¬ dif s hs ≠ 0) (h2 : val s < ls) : prt val hs (n + 1) s ls fs = prt val hs n (s + 1) (val s) s := by conv => lhs; unfold prt; rw [if_neg h, if_pos h2]
theorem prt_keep {val : Nat → Int} {hs n s : Nat} {ls fs : Int} (h : ¬ dif s hs ≠ 0) (h2 : ¬ val s < ls) : prt val hs (n + 1) s ls fs = prt val hs n (s + 1) ls fs := by conv => lhs; unfold prt; rw [if_neg h, if_neg h2]
theorem parV_w (g : Row) (l k s : Nat) : w64 (parV g l k s) = parV g l k s := w64_w64 _
set_option maxRecDepth 4000 in
theorem l_homesA {Γ : Gm} {d : Nat} {m0 : Mem} {Po : Int → Mem → Prop} (g : Row) (hI : HI g) (hH : HouR g m0 33) (hN : NowR g m0 44) (one l k fl : Nat) (t0 cm : Int) (hfl12 : fl < 4096)
    (kont : ∀ (M : Mem) (v5 : Vl), Fr (sA 73) m0 M → CT M 73 one ((g (60 + one)).toNat, tkS g l k fl t0 (g 3).toNat, fl, decide (g (69 + one) = 1), cm) → Em Γ (d + 3) MX5_homesWith Po 106 [rv 72, iv one, iv fl, iv ((setN (parted g l k) (g 3).toNat) : Nat), iv ((g 3).toNat : Nat), v5, uv] [] M) :
    ∀ (n p : Nat) (v5 : Vl) (M : Mem), p + n = (g 3).toNat → Fr (sA 73) m0 M → CT M 73 one ((g (60 + one)).toNat, (tkS g l k fl t0 p), fl, decide (g (69 + one) = 1), cm) → Em Γ (d + 3) MX5_homesWith Po 23 [rv 72, iv one, iv fl, iv ((setN (parted g l k) (g 3).toNat) : Nat), iv p, v5, uv] [] M := by
  have hF12 := hI.1
  have hP8 := hI.2.2.1
  have hL3 := hI.2.1
  intro n
  induction n with
  | zero =>
    intro p v5 M hp hF hT
    have e33 : M 33 3 = g 3 := (hH.pl hF.toPl).n0.2.2.2
    refine Ev.iload (q := 25) dX5_homesWith_23 rfl rfl ?_
    refine Ev.aload_n (q := 26) dX5_homesWith_25 rfl rfl ?_
    refine gR (q := 29) dX5_homesWith_26 gfX5_19 k72 r72_0 rfl rfl ?_
    refine gI (q := 32) dX5_homesWith_29 gfX5_86 k33 rfl rfl ?_
    rw [e33]
    refine Ev.icmp_ge (tgt := 106) (q := 35) dX5_homesWith_32 (by decide) rfl (fun h1 => ?_) (fun h1 => ?_)
    · skip
      obtain rfl : p = (g 3).toNat := by omega
      exact kont M v5 hF hT
    · skip
      omega
  | succ n ih =>
    intro p v5 M hp hF hT
    have e33 : M 33 3 = g 3 := (hH.pl hF.toPl).n0.2.2.2
    have e36 : M 36 p = g (28 + p) := ((hH.pl hF.toPl).ho (by omega)).1
    have e50 : M 50 p = g (80 + p) := ((hN.pl hF.toPl).2 p (by omega)).2.1
    have hpp := (hI.pers (p := p) (by omega)).1
    have hb := bit_and (s := (setN (parted g l k) (g 3).toNat)) (setN_12 (parted g l k) (by omega)) (show p < 12 by omega)
    rw [setN_bit, decide_eq_true (show p < (g 3).toNat by omega), Bool.true_and] at hb
    refine Ev.iload (q := 25) dX5_homesWith_23 rfl rfl ?_
    refine Ev.aload_n (q := 26) dX5_homesWith_25 rfl rfl ?_
    refine gR (q := 29) dX5_homesWith_26 gfX5_19 k72 r72_0 rfl rfl ?_
    refine gI (q := 32) dX5_homesWith_29 gfX5_86 k33 rfl rfl ?_
    rw [e33]
    refine Ev.icmp_ge (tgt := 106) (q := 35) dX5_homesWith_32 (by decide) rfl (fun h1 => ?_) (fun h1 => ?_)
    · skip
      omega
    · skip
      refine Ev.iload_n (q := 36) dX5_homesWith_35 rfl rfl ?_
      refine Ev.iconst (q := 37) dX5_homesWith_36 ki_1 rfl ?_
      refine Ev.iload (q := 39) dX5_homesWith_37 rfl rfl ?_
      refine Ev.ishl (q := 40) dX5_homesWith_39 rfl ?_
      refine Ev.iand (q := 41) dX5_homesWith_40 rfl ?_
      refine Ev.if_eq (tgt := 65) (q := 44) dX5_homesWith_41 (by decide) rfl (fun h2 => ?_) (fun h2 => ?_)
      · skip
        have hq : ¬ parted g l k p = true := by rw [hb.mp h2]; decide
        refine Ev.iconst (q := 66) dX5_homesWith_65 ki_0 rfl ?_
        refine istore_5 (q := 68) dX5_homesWith_66 rfl rfl rfl ?_
        refine Ev.iload (q := 70) dX5_homesWith_68 rfl rfl ?_
        refine Ev.if_eq (tgt := 100) (q := 73) dX5_homesWith_70 (by decide) rfl (fun h21 => ?_) (fun h21 => ?_)
        · skip
          refine iinc_4 (q := 103) dX5_homesWith_100 rfl rfl rfl ?_
          refine Ev.goto (q := 23) dX5_homesWith_103 (by decide) ?_
          rw [w32_of (by omega) (by omega)]
          refine ih (p + 1) _ M (by omega) hF ?_
          rw [tkS_no (fun z => hq z.1)]
          exact hT
        · skip
          omega
      · skip
        have hq : parted g l k p = true := by cases hz : parted g l k p with
          | true => rfl
          | false => exact absurd (hb.mpr hz) h2
        refine Ev.iload_n (q := 45) dX5_homesWith_44 rfl rfl ?_
        refine Ev.iconst (q := 46) dX5_homesWith_45 ki_1 rfl ?_
        refine Ev.aload_n (q := 47) dX5_homesWith_46 rfl rfl ?_
        refine gR (q := 50) dX5_homesWith_47 gfX5_19 k72 r72_0 rfl rfl ?_
        refine gR (q := 53) dX5_homesWith_50 gfX5_42 k33 r33_6 rfl rfl ?_
        refine Ev.iload (q := 55) dX5_homesWith_53 rfl rfl ?_
        refine aI (q := 56) (k := p) dX5_homesWith_55 k36 (by first | rfl | omega | (simp (disch := omega) only [w32_of]; omega)) (by omega) rfl ?_
        rw [e36, show g (28 + p) = (((g (28 + p)).toNat : Nat) : Int) by omega]
        refine Ev.ishl (q := 57) dX5_homesWith_56 rfl ?_
        refine Ev.iand (q := 58) dX5_homesWith_57 rfl ?_
        refine Ev.if_eq (tgt := 65) (q := 61) dX5_homesWith_58 (by decide) rfl (fun h3 => ?_) (fun h3 => ?_)
        · skip
          have hb2 := (bit_and hfl12 (show (g (28 + p)).toNat < 12 by omega)).mp h3
          refine Ev.iconst (q := 66) dX5_homesWith_65 ki_0 rfl ?_
          refine istore_5 (q := 68) dX5_homesWith_66 rfl rfl rfl ?_
          refine Ev.iload (q := 70) dX5_homesWith_68 rfl rfl ?_
          refine Ev.if_eq (tgt := 100) (q := 73) dX5_homesWith_70 (by decide) rfl (fun h21 => ?_) (fun h21 => ?_)
          · skip
            refine iinc_4 (q := 103) dX5_homesWith_100 rfl rfl rfl ?_
            refine Ev.goto (q := 23) dX5_homesWith_103 (by decide) ?_
            rw [w32_of (by omega) (by omega)]
            refine ih (p + 1) _ M (by omega) hF ?_
            rw [tkS_no (fun z => by rw [hb2] at z; exact absurd z.2 (by decide))]
            exact hT
          · skip
            omega
        · skip
          have hb2 : fl.testBit (g (28 + p)).toNat = true := by
            cases hz : fl.testBit (g (28 + p)).toNat with
            | true => rfl
            | false => exact absurd ((bit_and hfl12 (show (g (28 + p)).toNat < 12 by omega)).mpr hz) h3
          refine Ev.iconst (q := 62) dX5_homesWith_61 ki_1 rfl ?_
          refine Ev.goto (q := 66) dX5_homesWith_62 (by decide) ?_
          refine istore_5 (q := 68) dX5_homesWith_66 rfl rfl rfl ?_
          refine Ev.iload (q := 70) dX5_homesWith_68 rfl rfl ?_
          refine Ev.if_eq (tgt := 100) (q := 73) dX5_homesWith_70 (by decide) rfl (fun h21 => ?_) (fun h21 => ?_)
          · skip
            omega
          · skip
            refine Ev.aload_n (q := 74) dX5_homesWith_73 rfl rfl ?_
            refine gR (q := 77) dX5_homesWith_74 gfX5_32 k72 r72_2 rfl rfl ?_
            refine Ev.aload_n (q := 78) dX5_homesWith_77 rfl rfl ?_
            refine gR (q := 81) dX5_homesWith_78 gfX5_32 k72 r72_2 rfl rfl ?_
            refine gI (q := 84) dX5_homesWith_81 gfX5_64 k73 rfl rfl ?_
            rw [hT.2.2.1]
            refine Ev.aload_n (q := 85) dX5_homesWith_84 rfl rfl ?_
            refine gR (q := 88) dX5_homesWith_85 gfX5_23 k72 r72_1 rfl rfl ?_
            refine gR (q := 91) dX5_homesWith_88 gfX5_47 k44 r44_5 rfl rfl ?_
            refine Ev.iload (q := 93) dX5_homesWith_91 rfl rfl ?_
            refine aI (q := 94) (k := p) dX5_homesWith_93 k50 (by first | rfl | omega | (simp (disch := omega) only [w32_of]; omega)) (by omega) rfl ?_
            rw [e50]
            refine cS2i (q := 97) (d' := d + 2) dX5_homesWith_94 mlX5_67 moJ9_max_7cf53 msJ9_max_7cf53 rfl rfl (Nat.le_refl _) rfl rfl rfl (p_J9_max_7cf53 _ _) (fun r22 m22 e22 => ?_)
            obtain ⟨rfl, e22⟩ := e22
            obtain rfl := e22.symm
            refine pI (q := 100) dX5_homesWith_97 gfX5_64 k73 rfl rfl ?_
            refine iinc_4 (q := 103) dX5_homesWith_100 rfl rfl rfl ?_
            refine Ev.goto (q := 23) dX5_homesWith_103 (by decide) ?_
            rw [w32_of (z := (p : Int) + 1) (by omega) (by omega)]
            refine ih (p + 1) _ _ (by omega) (hF.up rfl) ?_
            rw [tkS_yes hq hb2]
            exact hT.up3 _
set_option maxRecDepth 4000 in
theorem l_homesB {Γ : Gm} {d : Nat} {m0 : Mem} (g : Row) (hI : HI g) (hH : HouR g m0 33) (hN : NowR g m0 44) (one l k fl : Nat) (T : Int) (ho : (one : Int) < g 2) : ∀ (n q : Nat) (M : Mem) (h : Nat) (tt : Int) (s : Nat) (u : Bool) (cm sm : Int), q + n = 12 → w64 sm = sm → CT M 73 one (h, tt, s, u, cm) → tOk2 (g 1).toNat (h, tt, s, u, cm) → Fr (sA 73) m0 M → T = tkL g l k one n (h, tt, s, u, cm) sm → Em Γ (d + 3) MX5_homesWith (fun r m' => r = T ∧ Fr (sA 73) m0 m') 112 [rv 72, iv one, iv fl, iv ((setN (parted g l k) (g 3).toNat) : Nat), jv sm, uv, iv q] [] M := by
  have hF12 := hI.1
  have hP8 := hI.2.2.1
  have hL3 := hI.2.1
  intro n
  induction n with
  | zero =>
    intro q M h tt s u cm sm hn hsm hT hok hF hq
    refine Ev.iload (q := 114) dX5_homesWith_112 rfl rfl ?_
    refine Ev.bipush (q := 116) dX5_homesWith_114 kb_12 rfl ?_
    refine Ev.icmp_ge (tgt := 162) (q := 119) dX5_homesWith_116 (by decide) rfl (fun h1 => ?_) (fun h1 => ?_)
    · skip
      refine Ev.lload (q := 164) dX5_homesWith_162 rfl rfl ?_
      refine rJ dX5_homesWith_164 rfl ?_
      exact ⟨by rw [hq]; rfl, hF⟩
    · skip
      omega
  | succ n ih =>
    intro q M h tt s u cm sm hn hsm hT hok hF hq
    refine Ev.iload (q := 114) dX5_homesWith_112 rfl rfl ?_
    refine Ev.bipush (q := 116) dX5_homesWith_114 kb_12 rfl ?_
    refine Ev.icmp_ge (tgt := 162) (q := 119) dX5_homesWith_116 (by decide) rfl (fun h1 => ?_) (fun h1 => ?_)
    · skip
      omega
    · skip
      refine Ev.aload_n (q := 120) dX5_homesWith_119 rfl rfl ?_
      refine gR (q := 123) dX5_homesWith_120 gfX5_32 k72 r72_2 rfl rfl ?_
      refine cV0i (q := 126) (d' := d + 2) dX5_homesWith_123 mlX5_92 moX10_rideOn mvX10_rideOn k73 rfl rfl rfl (Nat.le_refl _) rfl rfl rfl (p_X10_rideOn g 73 one h tt s u cm (by decide) hI ho (hH.pl hF.toPl) hT hok) (fun r2 m2 e2 => ?_)
      obtain ⟨M9, rfl⟩ : ∃ M9, M9 = m2 := ⟨_, rfl⟩
      obtain ⟨eN, eS⟩ := e2
      refine Ev.if_eq (tgt := 162) (q := 129) dX5_homesWith_126 (by decide) rfl (fun h3 => ?_) (fun h3 => ?_)
      · skip
        have hg : tgo (g (22 + one)) (stopV g one) (h, tt, s, u, cm) = none := by
          cases hg : tgo (g (22 + one)) (stopV g one) (h, tt, s, u, cm) with
          | none => rfl
          | some t' => have := (eS t' hg).1; omega
        obtain ⟨-, rfl⟩ := eN hg
        refine Ev.lload (q := 164) dX5_homesWith_162 rfl rfl ?_
        refine rJ dX5_homesWith_164 rfl ?_
        exact ⟨by rw [hq, tkL_none hg], hF⟩
      · skip
        obtain ⟨t', hg⟩ : ∃ t', tgo (g (22 + one)) (stopV g one) (h, tt, s, u, cm) = some t' := by
          cases hg : tgo (g (22 + one)) (stopV g one) (h, tt, s, u, cm) with
          | none => have := (eN hg).1; omega
          | some t' => exact ⟨t', rfl⟩
        obtain ⟨-, hT', hF'⟩ := eS t' hg
        have hok' := tgo_ok2 hok hg
        have hF9 : Fr (sA 73) m0 M9 := hF.tr hF'
        rw [tkL_some hg] at hq
        refine Ev.lload (q := 131) dX5_homesWith_129 rfl rfl ?_
        refine Ev.aload_n (q := 132) dX5_homesWith_131 rfl rfl ?_
        refine gR (q := 135) dX5_homesWith_132 gfX5_32 k72 r72_2 rfl rfl ?_
        refine gI (q := 138) dX5_homesWith_135 gfX5_96 k73 rfl rfl ?_
        rw [hT'.2]
        refine Ev.i2l (q := 139) dX5_homesWith_138 rfl ?_
        refine Ev.aload_n (q := 140) dX5_homesWith_139 rfl rfl ?_
        refine Ev.aload_n (q := 141) dX5_homesWith_140 rfl rfl ?_
        refine gR (q := 144) dX5_homesWith_141 gfX5_32 k72 r72_2 rfl rfl ?_
        refine gI (q := 147) dX5_homesWith_144 gfX5_54 k73 rfl rfl ?_
        rw [hT'.1.2.1]
        refine Ev.iload_n (q := 148) dX5_homesWith_147 rfl rfl ?_
        refine cV2i (q := 151) (d' := d + 2) dX5_homesWith_148 mlX5_99 moX5_worthAt mvX5_worthAt k72 rfl rfl rfl (Nat.le_refl _) rfl rfl rfl (p_X5_worthAt g l k t'.1 hI (hH.pl hF9.toPl) (hN.pl hF9.toPl)) (fun r4 m4 e4 => ?_)
        obtain ⟨rfl, e4⟩ := e4
        obtain rfl := e4.symm
        refine Ev.i2l (q := 152) dX5_homesWith_151 rfl ?_
        refine Ev.lmul (q := 153) dX5_homesWith_152 rfl ?_
        refine Ev.ladd (q := 154) dX5_homesWith_153 rfl ?_
        refine lstore_4 (q := 156) dX5_homesWith_154 rfl rfl rfl ?_
        refine iinc_6 (q := 159) dX5_homesWith_156 rfl rfl rfl ?_
        refine Ev.goto (q := 112) dX5_homesWith_159 (by decide) ?_
        rw [w32_of (by omega) (by omega)]
        refine ih (q + 1) M9 t'.1 t'.2.1 t'.2.2.1 t'.2.2.2.1 t'.2.2.2.2 _ (by omega) (w64_w64 _) hT'.1 hok' hF9 ?_
        rw [hq, tkW_eq g l k t'.1 _ sm hsm, w64_adr]
set_option maxRecDepth 4000 in
theorem p_X5_homesWith {Γ : Gm} {d : Nat} {m : Mem} (g : Row) (one l k fl : Nat) (hI : HI g) (hH : HouR g m 33) (hN : NowR g m 44) (ho : (one : Int) < g 2) (hfl : litOk g one fl) : Ci Γ (d + 3) MX5_homesWith [rv 72, iv one, iv fl, iv ((setN (parted g l k) (g 3).toNat) : Nat)] m (fun r m' => r = takV g one l k fl ∧ Fr (sA 73) m m') := by
  refine Ci.of moX5_homesWith rfl rfl (fun hA hM => ?_)
  show Em Γ (d + 3) MX5_homesWith _ 0 [rv 72, iv one, iv fl, iv ((setN (parted g l k) (g 3).toNat) : Nat), uv, uv, uv] [] m
  have hF12 := hI.1
  have hP8 := hI.2.2.1
  have hL3 := hI.2.1
  refine Ev.aload_n (q := 1) dX5_homesWith_0 rfl rfl ?_
  refine gR (q := 4) dX5_homesWith_1 gfX5_32 k72 r72_2 rfl rfl ?_
  refine Ev.aload_n (q := 5) dX5_homesWith_4 rfl rfl ?_
  refine gR (q := 8) dX5_homesWith_5 gfX5_23 k72 r72_1 rfl rfl ?_
  refine Ev.iload_n (q := 9) dX5_homesWith_8 rfl rfl ?_
  refine cV2v (q := 12) (d' := d + 2) dX5_homesWith_9 mlX5_50 moX10_begin mvX10_begin k73 rfl rfl rfl (Nat.le_refl _) rfl rfl rfl (p_X10_begin g 73 44 one (by decide) (by decide) hI ho hN) (fun r1 m1 e1 => ?_)
  obtain ⟨M1, rfl⟩ : ∃ M1, M1 = m1 := ⟨_, rfl⟩
  obtain ⟨hT1, hF1⟩ := e1
  refine Ev.aload_n (q := 13) dX5_homesWith_12 rfl rfl ?_
  refine gR (q := 16) dX5_homesWith_13 gfX5_32 k72 r72_2 rfl rfl ?_
  refine Ev.iload_n (q := 17) dX5_homesWith_16 rfl rfl ?_
  refine pI (q := 20) dX5_homesWith_17 gfX5_57 k73 rfl rfl ?_
  refine Ev.iconst (q := 21) dX5_homesWith_20 ki_0 rfl ?_
  refine istore_4 (q := 23) dX5_homesWith_21 rfl rfl rfl ?_
  refine l_homesA (m0 := m) g hI hH hN one l k fl (g (63 + one)) (g (63 + one)) (hfl.lt hI) (fun M v5 hF hT => ?_) (g 3).toNat 0 uv _ (by omega) (hF1.up rfl) (hT1.1.up4 fl)
  refine Ev.lconst (q := 107) dX5_homesWith_106 kj_0 rfl ?_
  refine lstore_4 (q := 109) dX5_homesWith_107 rfl rfl rfl ?_
  refine Ev.iconst (q := 110) dX5_homesWith_109 ki_0 rfl ?_
  refine istore_6 (q := 112) dX5_homesWith_110 rfl rfl rfl ?_
  refine l_homesB (m0 := m) g hI hH hN one l k fl _ ho 12 0 M _ _ _ _ _ 0 (by omega) w0' hT (hI.liftOk ho hfl.1 hfl.2) hF ?_
  unfold takV
  rw [tkL_came _ _ _ _ _ _ _ (g (63 + one))]
  exact (tkL_13 12 _ _ (hI.liftOk ho hfl.1 hfl.2) (pop_le _)).symm
set_option maxRecDepth 4000 in
theorem l_part {Γ : Gm} {d : Nat} {m0 : Mem} (g : Row) (hI : HI g) (hH : HouR g m0 33) (hN : NowR g m0 44) (l k hs : Nat) (T : Int × Int) (hl : (l : Int) < g 2) (hk : (k : Int) < g 2) (he : g (60 + l) = g (60 + k)) (hhs : hs = hms g l k (g 3).toNat) (hok : litOk g l hs) (hs12 : hs < 4096) : ∀ (n s : Nat) (ls fs : Int) (M : Mem) (v6 v7 : Vl), s + n = hs + 1 → w64 ls = ls → M 72 3 = ls → M 72 4 = fs → Fr sPl m0 M → T = prt (parV g l k) hs n s ls fs → Em Γ (d + 4) MX5_part (fun r m' => m' 72 3 = T.1 ∧ m' 72 4 = T.2 ∧ Fr sPl m0 m') 34 [rv 72, iv l, iv k, iv ((setN (parted g l k) (g 3).toNat) : Nat), iv hs, iv s, v6, v7] [] M := by
  have hF12 := hI.1
  have hP8 := hI.2.2.1
  have hL3 := hI.2.1
  intro n
  induction n with
  | zero =>
    intro s ls fs M v6 v7 hn hls9 h3 h4 hF hT
    refine Ev.iload (q := 36) dX5_part_34 rfl rfl ?_
    refine Ev.iload (q := 38) dX5_part_36 rfl rfl ?_
    refine Ev.icmp_gt (tgt := 106) (q := 41) dX5_part_38 (by decide) rfl (fun h1 => ?_) (fun h1 => ?_)
    · skip
      refine rV dX5_part_106 rfl ?_
      exact ⟨by rw [hT]; exact h3, by rw [hT]; exact h4, hF⟩
    · skip
      omega
  | succ n ih =>
    intro s ls fs M v6 v7 hn hls9 h3 h4 hF hT
    refine Ev.iload (q := 36) dX5_part_34 rfl rfl ?_
    refine Ev.iload (q := 38) dX5_part_36 rfl rfl ?_
    refine Ev.icmp_gt (tgt := 106) (q := 41) dX5_part_38 (by decide) rfl (fun h1 => ?_) (fun h1 => ?_)
    · skip
      omega
    · skip
      refine Ev.iload (q := 43) dX5_part_41 rfl rfl ?_
      refine Ev.iload (q := 45) dX5_part_43 rfl rfl ?_
      refine Ev.iconst (q := 46) dX5_part_45 ki_m1 rfl ?_
      refine Ev.ixor (q := 47) dX5_part_46 rfl ?_
      refine Ev.iand (q := 48) dX5_part_47 rfl ?_
      rw [iandn_n (by omega)]
      refine Ev.if_eq (tgt := 54) (q := 51) dX5_part_48 (by decide) rfl (fun h2 => ?_) (fun h2 => ?_)
      · skip
        have hd : dif s hs = 0 := by omega
        have hls : litOk g l s := litOk_sub hok hd (by omega)
        refine Ev.aload_n (q := 55) dX5_part_54 rfl rfl ?_
        refine Ev.iload_n (q := 56) dX5_part_55 rfl rfl ?_
        refine Ev.iload (q := 58) dX5_part_56 rfl rfl ?_
        refine Ev.iload_n (q := 59) dX5_part_58 rfl rfl ?_
        refine cV3j (q := 62) (d' := d + 3) dX5_part_59 mlX5_79 moX5_homesWith mvX5_homesWith k72 rfl rfl rfl (Nat.le_refl _) rfl rfl rfl (p_X5_homesWith g l l k s hI (hH.pl (hF)) (hN.pl (hF)) hl hls) (fun r3 m3 e3 => ?_)
        obtain ⟨M8, rfl⟩ : ∃ M8, M8 = m3 := ⟨_, rfl⟩
        obtain ⟨y8, f8⟩ := e3
        subst y8
        refine Ev.aload_n (q := 63) dX5_part_62 rfl rfl ?_
        refine Ev.iload_n (q := 64) dX5_part_63 rfl rfl ?_
        refine Ev.iload (q := 66) dX5_part_64 rfl rfl ?_
        refine Ev.iload (q := 68) dX5_part_66 rfl rfl ?_
        refine Ev.iconst (q := 69) dX5_part_68 ki_m1 rfl ?_
        refine Ev.ixor (q := 70) dX5_part_69 rfl ?_
        refine Ev.iand (q := 71) dX5_part_70 rfl ?_
        rw [iandn_n (by omega)]
        refine Ev.iload_n (q := 72) dX5_part_71 rfl rfl ?_
        refine cV3j (q := 75) (d' := d + 3) dX5_part_72 mlX5_79 moX5_homesWith mvX5_homesWith k72 rfl rfl rfl (Nat.le_refl _) rfl rfl rfl (p_X5_homesWith g k l k (dif hs s) hI (hH.pl (hF.tr f8.toPl)) (hN.pl (hF.tr f8.toPl)) hk (litOk_at (litOk_dif hok) he)) (fun r4 m4 e4 => ?_)
        obtain ⟨M9, rfl⟩ : ∃ M9, M9 = m4 := ⟨_, rfl⟩
        obtain ⟨y9, f9⟩ := e4
        subst y9
        refine Ev.ladd (q := 76) dX5_part_75 rfl ?_
        have e3 : M9 72 3 = ls := by rw [f9 72 3 rfl, f8 72 3 rfl]; exact h3
        have e4 : M9 72 4 = fs := by rw [f9 72 4 rfl, f8 72 4 rfl]; exact h4
        have hF9 : Fr sPl m0 M9 := hF.tr (f8.toPl.tr f9.toPl)
        have hpv : w64 (takV g l l k s + takV g k l k (dif hs s)) = parV g l k s := by unfold parV; rw [← hhs]
        rw [hpv]
        refine lstore_6 (q := 78) dX5_part_76 rfl rfl rfl ?_
        refine Ev.lload (q := 80) dX5_part_78 rfl rfl ?_
        refine Ev.aload_n (q := 81) dX5_part_80 rfl rfl ?_
        refine gJ (q := 84) dX5_part_81 gfX5_9 k72 rfl rfl ?_
        rw [e3]
        refine Ev.lcmp (q := 85) dX5_part_84 rfl ?_
        have z1 := lcmp_lt (parV_w g l k s) hls9
        have z2 := lcmp_ge (parV_w g l k s) hls9
        refine Ev.if_ge (tgt := 100) (q := 88) dX5_part_85 (by decide) rfl (fun h5 => ?_) (fun h5 => ?_)
        · skip
          refine iinc_5 (q := 103) dX5_part_100 rfl rfl rfl ?_
          refine Ev.goto (q := 34) dX5_part_103 (by decide) ?_
          rw [w32_of (by omega) (by omega)]
          exact ih (s + 1) ls fs M9 _ _ (by omega) hls9 e3 e4 hF9 (by rw [hT, prt_keep (fun z => z hd) (by omega)])
        · skip
          refine Ev.aload_n (q := 89) dX5_part_88 rfl rfl ?_
          refine Ev.lload (q := 91) dX5_part_89 rfl rfl ?_
          refine pJ (q := 94) dX5_part_91 gfX5_9 k72 rfl rfl ?_
          refine Ev.aload_n (q := 95) dX5_part_94 rfl rfl ?_
          refine Ev.iload (q := 97) dX5_part_95 rfl rfl ?_
          refine pI (q := 100) dX5_part_97 gfX5_15 k72 rfl rfl ?_
          refine iinc_5 (q := 103) dX5_part_100 rfl rfl rfl ?_
          refine Ev.goto (q := 34) dX5_part_103 (by decide) ?_
          rw [w32_of (by omega) (by omega)]
          exact ih (s + 1) _ (s : Int) _ _ _ (by omega) (parV_w g l k s) (by rw [up_k _ _ (by decide), up_eq]) (up_eq _ _ _ _) ((hF9.up rfl).up rfl) (by rw [hT, prt_take (fun z => z hd) (by omega)])
      · skip
        refine Ev.goto (q := 100) dX5_part_51 (by decide) ?_
        refine iinc_5 (q := 103) dX5_part_100 rfl rfl rfl ?_
        refine Ev.goto (q := 34) dX5_part_103 (by decide) ?_
        rw [w32_of (by omega) (by omega)]
        exact ih (s + 1) ls fs M _ _ (by omega) hls9 h3 h4 hF (by rw [hT, prt_skip (by omega)])
set_option maxRecDepth 4000 in
theorem p_X5_part {Γ : Gm} {d : Nat} {m : Mem} (g : Row) (l k : Nat) (fs : Int) (hI : HI g) (hH : HouR g m 33) (hN : NowR g m 44) (hl : (l : Int) < g 2) (hk : (k : Int) < g 2) (he : g (60 + l) = g (60 + k)) : Ci Γ (d + 4) MX5_part [rv 72, iv l, iv k] m (fun r m' => m' 72 3 = (prtV g l k fs).1 ∧ m' 72 4 = (prtV g l k fs).2 ∧ Fr sPl m m') := by
  refine Ci.of moX5_part rfl rfl (fun hA hM => ?_)
  show Em Γ (d + 4) MX5_part _ 0 [rv 72, iv l, iv k, uv, uv, uv, uv, uv] [] m
  have hF12 := hI.1
  have hP8 := hI.2.2.1
  have hL3 := hI.2.1
  obtain ⟨hs, hhs⟩ : ∃ hs, hs = hms g l k (g 3).toNat := ⟨_, rfl⟩
  have hok : litOk g l hs := by rw [hhs]; exact hms_ok hI _ (by omega)
  have hs12 := hok.lt hI
  have hbt := takV_bd hI k l k hs
  refine Ev.aload_n (q := 1) dX5_part_0 rfl rfl ?_
  refine Ev.iload_n (q := 2) dX5_part_1 rfl rfl ?_
  refine Ev.iload_n (q := 3) dX5_part_2 rfl rfl ?_
  refine cV2i (q := 6) (d' := d + 3) dX5_part_3 mlX5_73 moX5_crowdOf mvX5_crowdOf k72 rfl rfl rfl (Nat.le_refl _) rfl rfl rfl (p_X5_crowdOf g l k hI hH hN hl) (fun r1 m1 e1 => ?_)
  obtain ⟨rfl, e1⟩ := e1
  obtain rfl := e1.symm
  refine istore_n_3 (q := 7) dX5_part_6 rfl rfl rfl ?_
  refine Ev.aload_n (q := 8) dX5_part_7 rfl rfl ?_
  refine Ev.iload_n (q := 9) dX5_part_8 rfl rfl ?_
  refine cV1i (q := 12) (d' := d + 3) dX5_part_9 mlX5_76 moX5_homesOf mvX5_homesOf k72 rfl rfl rfl (Nat.le_refl _) rfl rfl rfl (p_X5_homesOf g l k hI hH hN) (fun r2 m2 e2 => ?_)
  obtain ⟨rfl, e2⟩ := e2
  obtain rfl := e2.symm
  rw [← hhs]
  refine istore_4 (q := 14) dX5_part_12 rfl rfl rfl ?_
  refine Ev.aload_n (q := 15) dX5_part_14 rfl rfl ?_
  refine Ev.iconst (q := 16) dX5_part_15 ki_0 rfl ?_
  refine pI (q := 19) dX5_part_16 gfX5_15 k72 rfl rfl ?_
  refine Ev.aload_n (q := 20) dX5_part_19 rfl rfl ?_
  refine Ev.aload_n (q := 21) dX5_part_20 rfl rfl ?_
  refine Ev.iload_n (q := 22) dX5_part_21 rfl rfl ?_
  refine Ev.iload (q := 24) dX5_part_22 rfl rfl ?_
  refine Ev.iload_n (q := 25) dX5_part_24 rfl rfl ?_
  refine cV3j (q := 28) (d' := d + 3) dX5_part_25 mlX5_79 moX5_homesWith mvX5_homesWith k72 rfl rfl rfl (Nat.le_refl _) rfl rfl rfl (p_X5_homesWith g k l k hs hI (hH.pl ((Fr.rf sPl m).up rfl)) (hN.pl ((Fr.rf sPl m).up rfl)) hk (litOk_at hok he)) (fun r3 m3 e3 => ?_)
  obtain ⟨M9, rfl⟩ : ∃ M9, M9 = m3 := ⟨_, rfl⟩
  obtain ⟨y9, f9⟩ := e3
  subst y9
  refine pJ (q := 31) dX5_part_28 gfX5_9 k72 rfl rfl ?_
  refine Ev.iconst (q := 32) dX5_part_31 ki_1 rfl ?_
  refine istore_5 (q := 34) dX5_part_32 rfl rfl rfl ?_
  rw [prt_start hI l k fs, ← hhs]
  exact l_part (m0 := m) g hI hH hN l k hs _ hl hk he hhs hok hs12 hs 1 _ 0 _ uv uv (by omega) (w64_of (by omega) (by omega)) (up_eq _ _ _ _) (by rw [up_k _ _ (by decide), f9 72 4 rfl, up_eq]) ((((Fr.rf sPl m).up rfl).tr f9.toPl).up rfl) rfl
