/-! ===== the class: lights to turn, the boy ===== -/
theorem two_F {F : Nat} (h : F ≤ 12) : 1 ≤ 2 ^ F ∧ 2 ^ F ≤ 4096 := ⟨Nat.two_pow_pos F, by have := Nat.pow_le_pow_right (n := 2) (by decide) h; omega⟩
theorem E47 {g : Row} {m : Mem} (hI : HI g) {l : Nat} (hl : (l : Int) < g 2) (hN : NowR g m 44) : m 47 l = (litV g l : Int) := by rw [(hN.1 l hl).2.2.1]; unfold litV; have := (hI.lift hl).2.1.1; omega
theorem E45 {g : Row} {m : Mem} (hI : HI g) {l : Nat} (hl : (l : Int) < g 2) (hN : NowR g m 44) : m 45 l = ((g (60 + l)).toNat : Int) := by rw [(hN.1 l hl).1]; have := (hI.lift hl).1.1; omega
set_option maxRecDepth 4000 in
theorem p_X3_unlit {Γ : Gm} {d : Nat} {m : Mem} (g : Row) (l : Nat) (hI : HI g) (hl : (l : Int) < g 2) (hH : HouR g m 33) (hN : NowR g m 44) : Ci Γ (d + 0) MX3_unlit [rv 68, iv l] m (fun r m' => r = (freS g l : Int) ∧ m' = m) := by
  refine Ci.of moX3_unlit rfl rfl (fun hA hM => ?_)
  show Em Γ (d + 0) MX3_unlit _ 0 [rv 68, iv l, uv] [] m
  have hF12 := hI.1
  have hP8 := hI.2.2.1
  have hL3 := hI.2.1
  obtain ⟨n0, -⟩ := hH.n0
  have e47 := E47 hI hl hN
  have e45 := E45 hI hl hN
  have hlk := hI.litOk hl
  have hp := two_F hI.F12
  have ql := hI.lift hl
  obtain ⟨F, hG1⟩ : ∃ F : Nat, g 1 = F := ⟨(g 1).toNat, by omega⟩
  have hFF : (g 1).toNat = F := by omega
  rw [hFF] at hp
  refine Ev.iconst (q := 1) dX3_unlit_0 ki_1 rfl ?_
  refine Ev.aload_n (q := 2) dX3_unlit_1 rfl rfl ?_
  refine gR (q := 5) dX3_unlit_2 gfX3_32 k68 r68_0 rfl rfl ?_
  refine gI (q := 8) dX3_unlit_5 gfX3_117 k33 rfl rfl ?_
  rw [n0, hG1]
  refine Ev.ishl (q := 9) dX3_unlit_8 rfl ?_
  rw [ishl_1 F (by omega)]
  refine Ev.iconst (q := 10) dX3_unlit_9 ki_1 rfl ?_
  refine Ev.isub (q := 11) dX3_unlit_10 rfl ?_
  rw [w32_of (by omega) (by omega), show (((2 ^ F : Nat) : Int) - 1) = ((2 ^ F - 1 : Nat) : Int) by omega]
  refine istore_n_2 (q := 12) dX3_unlit_11 rfl rfl rfl ?_
  refine Ev.iload_n (q := 13) dX3_unlit_12 rfl rfl ?_
  refine Ev.aload_n (q := 14) dX3_unlit_13 rfl rfl ?_
  refine gR (q := 17) dX3_unlit_14 gfX3_36 k68 r68_1 rfl rfl ?_
  refine gR (q := 20) dX3_unlit_17 gfX3_109 k44 r44_2 rfl rfl ?_
  refine Ev.iload_n (q := 21) dX3_unlit_20 rfl rfl ?_
  refine aI (q := 22) (k := l) dX3_unlit_21 k47 (by first | rfl | omega | (simp (disch := omega) only [w32_of]; omega)) (by omega) rfl ?_
  rw [e47]
  refine Ev.iconst (q := 23) dX3_unlit_22 ki_m1 rfl ?_
  refine Ev.ixor (q := 24) dX3_unlit_23 rfl ?_
  refine Ev.iand (q := 25) dX3_unlit_24 rfl ?_
  rw [iandn_n (by omega)]
  refine Ev.iconst (q := 26) dX3_unlit_25 ki_1 rfl ?_
  refine Ev.aload_n (q := 27) dX3_unlit_26 rfl rfl ?_
  refine gR (q := 30) dX3_unlit_27 gfX3_36 k68 r68_1 rfl rfl ?_
  refine gR (q := 33) dX3_unlit_30 gfX3_120 k44 r44_0 rfl rfl ?_
  refine Ev.iload_n (q := 34) dX3_unlit_33 rfl rfl ?_
  refine aI (q := 35) (k := l) dX3_unlit_34 k45 (by first | rfl | omega | (simp (disch := omega) only [w32_of]; omega)) (by omega) rfl ?_
  rw [e45]
  refine Ev.ishl (q := 36) dX3_unlit_35 rfl ?_
  rw [ishl_1 (g (60 + l)).toNat (by omega)]
  refine Ev.iconst (q := 37) dX3_unlit_36 ki_m1 rfl ?_
  refine Ev.ixor (q := 38) dX3_unlit_37 rfl ?_
  refine Ev.iand (q := 39) dX3_unlit_38 rfl ?_
  have hdl := dif_le (2 ^ F - 1) (litV g l)
  rw [iandn_n (by omega)]
  refine rI dX3_unlit_39 rfl ?_
  exact ⟨by unfold freS; rw [hFF], rfl⟩
theorem chg_skip {val : Nat → Int} {w own q f : Nat} {on : Bool} {b ls : Int} (h : w.testBit f ≠ on ∨ f = own) : chg val w own on (q + 1) f b ls = chg val w own on q (f + 1) b ls := by conv => lhs; unfold chg; rw [if_pos h]
theorem chg_take {val : Nat → Int} {w own q f : Nat} {on : Bool} {b ls : Int} (h : ¬ (w.testBit f ≠ on ∨ f = own)) (h2 : val (w ^^^ 2 ^ f) < ls) : chg val w own on (q + 1) f b ls = chg val w own on q (f + 1) f (val (w ^^^ 2 ^ f)) := by conv => lhs; unfold chg; rw [if_neg h, if_pos h2]
theorem chg_keep {val : Nat → Int} {w own q f : Nat} {on : Bool} {b ls : Int} (h : ¬ (w.testBit f ≠ on ∨ f = own)) (h2 : ¬ val (w ^^^ 2 ^ f) < ls) : chg val w own on (q + 1) f b ls = chg val w own on q (f + 1) b ls := by conv => lhs; unfold chg; rw [if_neg h, if_neg h2]
theorem sumV_w {g : Row} (hI : HI g) (l s : Nat) : w64 (sumV g l s) = sumV g l s := by have := sumV_bd hI l s; exact w64_of (by omega) (by omega)
set_option maxRecDepth 4000 in
theorem l_toTurn {Γ : Gm} {d : Nat} {m0 : Mem} (g : Row) (l : Nat) (hI : HI g) (hl : (l : Int) < g 2) (hH : HouR g m0 33) (hN : NowR g m0 44) (fs : Nat) (on : Bool) (T : Int) (hfs12 : fs < 4096) (hfs : ∀ f : Nat, (f : Int) < g 1 → (fs.testBit f = true ↔ ¬ ((litV g l).testBit f ≠ on ∨ f = (g (60 + l)).toNat))) : ∀ (q f : Nat) (b ls : Int) (M : Mem) (v7 v8 : Vl), f + q = (g 1).toNat → w64 ls = ls → Fr sLi m0 M → T = chg (sumV g l) (litV g l) (g (60 + l)).toNat on q f b ls → Em Γ (d + 6) MX3_toTurn (fun r m' => r = T ∧ Fr sLi m0 m') 21 [rv 68, iv l, iv fs, iv b, jv ls, uv, iv f, v7, v8] [] M := by
  have hF12 := hI.1
  have hP8 := hI.2.2.1
  have hL3 := hI.2.1
  intro q
  induction q with
  | zero =>
    intro f b ls M v7 v8 hk hls hF hT
    have e33 : M 33 0 = g 1 := by rw [hF 33 0 rfl]; exact hH.n0.1
    have e47 : M 47 l = (litV g l : Int) := by rw [hF 47 l rfl]; exact E47 hI hl hN
    refine Ev.iload (q := 23) dX3_toTurn_21 rfl rfl ?_
    refine Ev.aload_n (q := 24) dX3_toTurn_23 rfl rfl ?_
    refine gR (q := 27) dX3_toTurn_24 gfX3_32 k68 r68_0 rfl rfl ?_
    refine gI (q := 30) dX3_toTurn_27 gfX3_117 k33 rfl rfl ?_
    rw [e33]
    refine Ev.icmp_ge (tgt := 87) (q := 33) dX3_toTurn_30 (by decide) rfl (fun h1 => ?_) (fun h1 => ?_)
    · skip
      refine Ev.iload_n (q := 88) dX3_toTurn_87 rfl rfl ?_
      refine rI dX3_toTurn_88 rfl ?_
      exact ⟨by rw [hT]; rfl, hF⟩
    · skip
      omega
  | succ q ih =>
    intro f b ls M v7 v8 hk hls hF hT
    have e33 : M 33 0 = g 1 := by rw [hF 33 0 rfl]; exact hH.n0.1
    have e47 : M 47 l = (litV g l : Int) := by rw [hF 47 l rfl]; exact E47 hI hl hN
    refine Ev.iload (q := 23) dX3_toTurn_21 rfl rfl ?_
    refine Ev.aload_n (q := 24) dX3_toTurn_23 rfl rfl ?_
    refine gR (q := 27) dX3_toTurn_24 gfX3_32 k68 r68_0 rfl rfl ?_
    refine gI (q := 30) dX3_toTurn_27 gfX3_117 k33 rfl rfl ?_
    rw [e33]
    refine Ev.icmp_ge (tgt := 87) (q := 33) dX3_toTurn_30 (by decide) rfl (fun h1 => ?_) (fun h1 => ?_)
    · skip
      omega
    · skip
      refine Ev.iload_n (q := 34) dX3_toTurn_33 rfl rfl ?_
      refine Ev.iconst (q := 35) dX3_toTurn_34 ki_1 rfl ?_
      refine Ev.iload (q := 37) dX3_toTurn_35 rfl rfl ?_
      refine Ev.ishl (q := 38) dX3_toTurn_37 rfl ?_
      refine Ev.iand (q := 39) dX3_toTurn_38 rfl ?_
      refine Ev.if_ne (tgt := 45) (q := 42) dX3_toTurn_39 (by decide) rfl (fun h2 => ?_) (fun h2 => ?_)
      · skip
        have hb : fs.testBit f = true := by
          cases hq : fs.testBit f
          · exact absurd ((bit_and hfs12 (by omega)).mpr hq) h2
          · rfl
        have hsk := (hfs f (by omega)).mp hb
        have hlit : litOk g l (litV g l ^^^ 2 ^ f) := litOk_xor (hI.litOk hl) (by omega) (fun z => hsk (Or.inr z))
        refine Ev.aload_n (q := 46) dX3_toTurn_45 rfl rfl ?_
        refine Ev.iload_n (q := 47) dX3_toTurn_46 rfl rfl ?_
        refine Ev.aload_n (q := 48) dX3_toTurn_47 rfl rfl ?_
        refine gR (q := 51) dX3_toTurn_48 gfX3_36 k68 r68_1 rfl rfl ?_
        refine gR (q := 54) dX3_toTurn_51 gfX3_109 k44 r44_2 rfl rfl ?_
        refine Ev.iload_n (q := 55) dX3_toTurn_54 rfl rfl ?_
        refine aI (q := 56) (k := l) dX3_toTurn_55 k47 (by first | rfl | omega | (simp (disch := omega) only [w32_of]; omega)) (by omega) rfl ?_
        rw [e47]
        refine Ev.iconst (q := 57) dX3_toTurn_56 ki_1 rfl ?_
        refine Ev.iload (q := 59) dX3_toTurn_57 rfl rfl ?_
        refine Ev.ishl (q := 60) dX3_toTurn_59 rfl ?_
        refine Ev.ixor (q := 61) dX3_toTurn_60 rfl ?_
        rw [ishl_1 f (by omega), ixor_n (k := 12) ((hI.litOk hl).lt hI) (two_lt (by omega)) (by omega)]
        refine cV2j (q := 64) (d' := d + 5) dX3_toTurn_61 mlX3_105 moX3_sumWith mvX3_sumWith k68 rfl rfl rfl (Nat.le_refl _) rfl rfl rfl (p_X3_sumWith g l (litV g l ^^^ 2 ^ f) hI hl (hH.keep (fun a h1 h2 => hF.row a (fun _ => sLi_f (by omega)))) (hN.keep (fun a h1 h2 => hF.row a (fun _ => sLi_f (by omega)))) hlit) (fun r3 m3 e3 => ?_)
        obtain ⟨M9, rfl⟩ : ∃ M9, M9 = m3 := ⟨_, rfl⟩
        obtain ⟨y1, y8, y9⟩ := e3
        subst y1
        refine lstore_7 (q := 66) dX3_toTurn_64 rfl rfl rfl ?_
        refine Ev.lload (q := 68) dX3_toTurn_66 rfl rfl ?_
        refine Ev.lload (q := 70) dX3_toTurn_68 rfl rfl ?_
        have z1 := lcmp_lt (sumV_w hI l (litV g l ^^^ 2 ^ f)) hls
        have z2 := lcmp_ge (sumV_w hI l (litV g l ^^^ 2 ^ f)) hls
        refine Ev.lcmp (q := 71) dX3_toTurn_70 rfl ?_
        refine Ev.if_ge (tgt := 81) (q := 74) dX3_toTurn_71 (by decide) rfl (fun h4 => ?_) (fun h4 => ?_)
        · skip
          refine iinc_6 (q := 84) dX3_toTurn_81 rfl rfl rfl ?_
          refine Ev.goto (q := 21) dX3_toTurn_84 (by decide) ?_
          rw [w32_of (by omega) (by omega)]
          exact ih (f + 1) b ls M9 _ _ (by omega) hls (hF.tr y9) (by rw [hT, chg_keep hsk (by omega)])
        · skip
          refine Ev.lload (q := 76) dX3_toTurn_74 rfl rfl ?_
          refine lstore_4 (q := 78) dX3_toTurn_76 rfl rfl rfl ?_
          refine Ev.iload (q := 80) dX3_toTurn_78 rfl rfl ?_
          refine istore_n_3 (q := 81) dX3_toTurn_80 rfl rfl rfl ?_
          refine iinc_6 (q := 84) dX3_toTurn_81 rfl rfl rfl ?_
          refine Ev.goto (q := 21) dX3_toTurn_84 (by decide) ?_
          rw [w32_of (by omega) (by omega)]
          exact ih (f + 1) f _ M9 _ _ (by omega) (sumV_w hI l _) (hF.tr y9) (by rw [hT, chg_take hsk (by omega)])
      · skip
        have hb := (bit_and hfs12 (show f < 12 by omega)).mp h2
        have hsk : (litV g l).testBit f ≠ on ∨ f = (g (60 + l)).toNat := by
          apply Classical.byContradiction
          intro z
          rw [(hfs f (by omega)).mpr z] at hb
          cases hb
        refine Ev.goto (q := 81) dX3_toTurn_42 (by decide) ?_
        refine iinc_6 (q := 84) dX3_toTurn_81 rfl rfl rfl ?_
        refine Ev.goto (q := 21) dX3_toTurn_84 (by decide) ?_
        rw [w32_of (by omega) (by omega)]
        exact ih (f + 1) b ls M _ _ (by omega) hls hF (by rw [hT, chg_skip hsk])
set_option maxRecDepth 4000 in
theorem p_X3_toTurn {Γ : Gm} {d : Nat} {m : Mem} (g : Row) (l fs : Nat) (on : Bool) (hI : HI g) (hl : (l : Int) < g 2) (hH : HouR g m 33) (hN : NowR g m 44) (hfs12 : fs < 4096) (hfs : ∀ f : Nat, (f : Int) < g 1 → (fs.testBit f = true ↔ ¬ ((litV g l).testBit f ≠ on ∨ f = (g (60 + l)).toNat))) : Ci Γ (d + 6) MX3_toTurn [rv 68, iv l, iv fs] m (fun r m' => r = chgV g l on ∧ Fr sLi m m') := by
  refine Ci.of moX3_toTurn rfl rfl (fun hA hM => ?_)
  show Em Γ (d + 6) MX3_toTurn _ 0 [rv 68, iv l, iv fs, uv, uv, uv, uv, uv, uv] [] m
  have hF12 := hI.1
  have hP8 := hI.2.2.1
  have hL3 := hI.2.1
  have e47 := E47 hI hl hN
  refine Ev.iconst (q := 1) dX3_toTurn_0 ki_m1 rfl ?_
  refine istore_n_3 (q := 2) dX3_toTurn_1 rfl rfl rfl ?_
  refine Ev.aload_n (q := 3) dX3_toTurn_2 rfl rfl ?_
  refine Ev.iload_n (q := 4) dX3_toTurn_3 rfl rfl ?_
  refine Ev.aload_n (q := 5) dX3_toTurn_4 rfl rfl ?_
  refine gR (q := 8) dX3_toTurn_5 gfX3_36 k68 r68_1 rfl rfl ?_
  refine gR (q := 11) dX3_toTurn_8 gfX3_109 k44 r44_2 rfl rfl ?_
  refine Ev.iload_n (q := 12) dX3_toTurn_11 rfl rfl ?_
  refine aI (q := 13) (k := l) dX3_toTurn_12 k47 (by first | rfl | omega | (simp (disch := omega) only [w32_of]; omega)) (by omega) rfl ?_
  rw [e47]
  refine cV2j (q := 16) (d' := d + 5) dX3_toTurn_13 mlX3_105 moX3_sumWith mvX3_sumWith k68 rfl rfl rfl (Nat.le_refl _) rfl rfl rfl (p_X3_sumWith g l (litV g l) hI hl hH hN (hI.litOk hl)) (fun r1 m1 e1 => ?_)
  obtain ⟨M9, rfl⟩ : ∃ M9, M9 = m1 := ⟨_, rfl⟩
  obtain ⟨y1, y8, y9⟩ := e1
  subst y1
  refine lstore_4 (q := 18) dX3_toTurn_16 rfl rfl rfl ?_
  refine Ev.iconst (q := 19) dX3_toTurn_18 ki_0 rfl ?_
  refine istore_6 (q := 21) dX3_toTurn_19 rfl rfl rfl ?_
  exact l_toTurn g l hI hl hH hN fs on _ hfs12 hfs (g 1).toNat 0 (-1) _ M9 uv uv (by omega) (sumV_w hI l _) y9 rfl
set_option maxRecDepth 4000 in
theorem l_cdiv {Γ : Gm} {d : Nat} {m : Mem} (A0 B0 : Nat) (x0 x1 : Int) : ∀ (n k G L : Nat) (v9 v10 : Vl), k + 2 * n ≤ 190 → G < 9223372036854775808 → L < 9223372036854775808 → L < 2 ^ n → Nat.gcd A0 B0 = Nat.gcd G L → Em Γ (d + 0) MX3_commonDivisor (fun r m' => r = (Nat.gcd A0 B0 : Int) ∧ m' = m) 9 [jv x0, uv, jv x1, uv, jv G, uv, jv L, uv, iv k, v9, v10] [] m := by
  intro n
  induction n with
  | zero =>
    intro k G L v9 v10 hk hG hL9 hL hg
    have hL : L < 1 := hL
    refine Ev.iload (q := 11) dX3_commonDivisor_9 rfl rfl ?_
    refine Ev.sipush (q := 14) dX3_commonDivisor_11 kh_200 rfl ?_
    refine Ev.icmp_ge (tgt := 45) (q := 17) dX3_commonDivisor_14 (by decide) rfl (fun h1 => ?_) (fun h1 => ?_)
    · skip
      omega
    · skip
      refine Ev.lload (q := 19) dX3_commonDivisor_17 rfl rfl ?_
      refine Ev.lconst (q := 20) dX3_commonDivisor_19 kj_0 rfl ?_
      have z1 := lcmp_z (show w64 ((L : Nat) : Int) = L from w64_of (by omega) (by omega)) w0'
      refine Ev.lcmp (q := 21) dX3_commonDivisor_20 rfl ?_
      refine Ev.if_eq (tgt := 45) (q := 24) dX3_commonDivisor_21 (by decide) rfl (fun h2 => ?_) (fun h2 => ?_)
      · skip
        refine Ev.lload (q := 47) dX3_commonDivisor_45 rfl rfl ?_
        refine rJ dX3_commonDivisor_47 rfl ?_
        have h0 : L = 0 := by omega
        rw [h0, Nat.gcd_zero_right] at hg
        exact ⟨by rw [hg], rfl⟩
      · skip
        omega
  | succ n ih =>
    intro k G L v9 v10 hk hG hL9 hL hg
    refine Ev.iload (q := 11) dX3_commonDivisor_9 rfl rfl ?_
    refine Ev.sipush (q := 14) dX3_commonDivisor_11 kh_200 rfl ?_
    refine Ev.icmp_ge (tgt := 45) (q := 17) dX3_commonDivisor_14 (by decide) rfl (fun h1 => ?_) (fun h1 => ?_)
    · skip
      omega
    · skip
      refine Ev.lload (q := 19) dX3_commonDivisor_17 rfl rfl ?_
      refine Ev.lconst (q := 20) dX3_commonDivisor_19 kj_0 rfl ?_
      have z1 := lcmp_z (show w64 ((L : Nat) : Int) = L from w64_of (by omega) (by omega)) w0'
      refine Ev.lcmp (q := 21) dX3_commonDivisor_20 rfl ?_
      refine Ev.if_eq (tgt := 45) (q := 24) dX3_commonDivisor_21 (by decide) rfl (fun h2 => ?_) (fun h2 => ?_)
      · skip
        refine Ev.lload (q := 47) dX3_commonDivisor_45 rfl rfl ?_
        refine rJ dX3_commonDivisor_47 rfl ?_
        have h0 : L = 0 := by omega
        rw [h0, Nat.gcd_zero_right] at hg
        exact ⟨by rw [hg], rfl⟩
      · skip
        refine Ev.lload (q := 26) dX3_commonDivisor_24 rfl rfl ?_
        refine Ev.lload (q := 28) dX3_commonDivisor_26 rfl rfl ?_
        refine Ev.lrem (q := 29) dX3_commonDivisor_28 (by omega) rfl ?_
        rw [lrem_n (by omega) (by omega) (by omega)]
        refine lstore_9 (q := 31) dX3_commonDivisor_29 rfl rfl rfl ?_
        refine Ev.lload (q := 33) dX3_commonDivisor_31 rfl rfl ?_
        refine lstore_4 (q := 35) dX3_commonDivisor_33 rfl rfl rfl ?_
        refine Ev.lload (q := 37) dX3_commonDivisor_35 rfl rfl ?_
        refine lstore_6 (q := 39) dX3_commonDivisor_37 rfl rfl rfl ?_
        refine iinc_8 (q := 42) dX3_commonDivisor_39 rfl rfl rfl ?_
        refine Ev.goto (q := 9) dX3_commonDivisor_42 (by decide) ?_
        rw [w32_of (by omega) (by omega)]
        have hm := Nat.mod_lt G (show 0 < L by omega)
        have hg1 : Nat.gcd A0 B0 = Nat.gcd L (G % L) := by rw [hg, Nat.gcd_comm G L, Nat.gcd_rec L G, Nat.gcd_comm (G % L) L]
        clear hg
        have hg := hg1
        refine Ev.iload (q := 11) dX3_commonDivisor_9 rfl rfl ?_
        refine Ev.sipush (q := 14) dX3_commonDivisor_11 kh_200 rfl ?_
        refine Ev.icmp_ge (tgt := 45) (q := 17) dX3_commonDivisor_14 (by decide) rfl (fun h21 => ?_) (fun h21 => ?_)
        · skip
          omega
        · skip
          refine Ev.lload (q := 19) dX3_commonDivisor_17 rfl rfl ?_
          refine Ev.lconst (q := 20) dX3_commonDivisor_19 kj_0 rfl ?_
          have z2 := lcmp_z (show w64 ((G % L : Nat) : Int) = ((G % L : Nat) : Int) from w64_of (by omega) (by omega)) w0'
          refine Ev.lcmp (q := 21) dX3_commonDivisor_20 rfl ?_
          refine Ev.if_eq (tgt := 45) (q := 24) dX3_commonDivisor_21 (by decide) rfl (fun h22 => ?_) (fun h22 => ?_)
          · skip
            refine Ev.lload (q := 47) dX3_commonDivisor_45 rfl rfl ?_
            refine rJ dX3_commonDivisor_47 rfl ?_
            have h0 : G % L = 0 := by omega
            rw [h0, Nat.gcd_zero_right] at hg
            exact ⟨by rw [hg], rfl⟩
          · skip
            refine Ev.lload (q := 26) dX3_commonDivisor_24 rfl rfl ?_
            refine Ev.lload (q := 28) dX3_commonDivisor_26 rfl rfl ?_
            refine Ev.lrem (q := 29) dX3_commonDivisor_28 (by omega) rfl ?_
            rw [lrem_n (by omega) (by omega) (by omega)]
            refine lstore_9 (q := 31) dX3_commonDivisor_29 rfl rfl rfl ?_
            refine Ev.lload (q := 33) dX3_commonDivisor_31 rfl rfl ?_
            refine lstore_4 (q := 35) dX3_commonDivisor_33 rfl rfl rfl ?_
            refine Ev.lload (q := 37) dX3_commonDivisor_35 rfl rfl ?_
            refine lstore_6 (q := 39) dX3_commonDivisor_37 rfl rfl rfl ?_
            refine iinc_8 (q := 42) dX3_commonDivisor_39 rfl rfl rfl ?_
            refine Ev.goto (q := 9) dX3_commonDivisor_42 (by decide) ?_
            rw [w32_of (by omega) (by omega)]
            have hm2 := Nat.mod_lt L (show 0 < G % L by omega)
            have hh : L % (G % L) < 2 ^ n := by
              have h2n : 2 ^ (n + 1) = 2 * 2 ^ n := by rw [Nat.pow_succ]; omega
              rcases Nat.lt_or_ge (G % L) (2 ^ n) with q | q
              · omega
              · have e1 : L % (G % L) = L - (G % L) := by
                  rw [Nat.mod_eq_sub_mod (by omega), Nat.mod_eq_of_lt (by omega)]
                omega
            refine ih (k + 1 + 1) (G % L) (L % (G % L)) _ _ (by omega) (by omega) (by omega) hh ?_
            rw [hg, Nat.gcd_comm L (G % L), Nat.gcd_rec (G % L) L, Nat.gcd_comm (L % (G % L)) (G % L)]
set_option maxRecDepth 4000 in
theorem p_X3_commonDivisor {Γ : Gm} {d : Nat} {m : Mem} (A B : Nat) (hA9 : A < 9223372036854775808) (hB : B < 8192) : Ci Γ (d + 0) MX3_commonDivisor [jv A, jv B] m (fun r m' => r = (Nat.gcd A B : Int) ∧ m' = m) := by
  refine Ci.of moX3_commonDivisor rfl rfl (fun hA hM => ?_)
  show Em Γ (d + 0) MX3_commonDivisor _ 0 [jv A, uv, jv B, uv, uv, uv, uv, uv, uv, uv, uv] [] m
  refine Ev.lload_n (q := 1) dX3_commonDivisor_0 rfl rfl ?_
  refine lstore_4 (q := 3) dX3_commonDivisor_1 rfl rfl rfl ?_
  refine Ev.lload_n (q := 4) dX3_commonDivisor_3 rfl rfl ?_
  refine lstore_6 (q := 6) dX3_commonDivisor_4 rfl rfl rfl ?_
  refine Ev.iconst (q := 7) dX3_commonDivisor_6 ki_0 rfl ?_
  refine istore_8 (q := 9) dX3_commonDivisor_7 rfl rfl rfl ?_
  exact l_cdiv A B A B 13 0 A B uv uv (by omega) hA9 (by omega) (by omega) rfl
theorem abs_n {a : Int} (ha : -100000000000000000 ≤ a ∧ a ≤ 100000000000000000) : (if a < 0 then w64 (-a) else a) = ((a.natAbs : Nat) : Int) := by
  split
  · rw [w64_of (by omega) (by omega)]; omega
  · omega
theorem byN_skip {val : Nat → Int} {lit free n k s : Nat} {now a b : Int} (h : dif s free ≠ 0 ∨ ¬ pop s = n) : byN val lit free n now (k + 1) s a b = byN val lit free n now k (s + 1) a b := by conv => lhs; unfold byN; rw [if_pos h]
theorem byN_take {val : Nat → Int} {lit free n k s : Nat} {now a b : Int} (h : ¬ (dif s free ≠ 0 ∨ ¬ pop s = n)) : byN val lit free n now (k + 1) s a b = byN val lit free n now k (s + 1) (w64 (a + w64 (val (lit ||| s) - now))) (b + 1) := by conv => lhs; unfold byN; rw [if_neg h]
set_option maxRecDepth 4000 in
theorem l_boyN {Γ : Gm} {d : Nat} {m0 : Mem} {Po : Int → Mem → Prop} (g : Row) (l : Nat) (hI : HI g) (hl : (l : Int) < g 2) (hH : HouR g m0 33) (hN : NowR g m0 44) (n w : Nat) (T : Int × Int) (hw : litOk g l w) (hw12 : w < 4096)
    (kont : ∀ (M : Mem) (a b : Int) (v11 : Vl) (s : Nat), T = (a, b) → Fr sLi m0 M → Em Γ (d + 6) MX3_letBoyPress Po 95 [rv 68, iv l, iv n, iv w, jv (sumV g l (litV g l)), uv, jv a, uv, jv b, uv, iv s, v11] [] M) :
    ∀ (q s : Nat) (a b : Int) (M : Mem) (v11 : Vl), s + q = w + 1 → (0 ≤ b ∧ b ≤ s) → Fr sLi m0 M → T = byN (sumV g l) (litV g l) w n (sumV g l (litV g l)) q s a b → Em Γ (d + 6) MX3_letBoyPress Po 31 [rv 68, iv l, iv n, iv w, jv (sumV g l (litV g l)), uv, jv a, uv, jv b, uv, iv s, v11] [] M := by
  have hF12 := hI.1
  have hP8 := hI.2.2.1
  have hL3 := hI.2.1
  intro q
  induction q with
  | zero =>
    intro s a b M v11 hk hb hF hT
    refine Ev.iload (q := 33) dX3_letBoyPress_31 rfl rfl ?_
    refine Ev.iload_n (q := 34) dX3_letBoyPress_33 rfl rfl ?_
    refine Ev.icmp_gt (tgt := 95) (q := 37) dX3_letBoyPress_34 (by decide) rfl (fun h1 => ?_) (fun h1 => ?_)
    · skip
      exact kont M a b v11 s (by rw [hT]; rfl) hF
    · skip
      omega
  | succ q ih =>
    intro s a b M v11 hk hb hF hT
    have e47 : M 47 l = (litV g l : Int) := by rw [hF 47 l rfl]; exact E47 hI hl hN
    refine Ev.iload (q := 33) dX3_letBoyPress_31 rfl rfl ?_
    refine Ev.iload_n (q := 34) dX3_letBoyPress_33 rfl rfl ?_
    refine Ev.icmp_gt (tgt := 95) (q := 37) dX3_letBoyPress_34 (by decide) rfl (fun h1 => ?_) (fun h1 => ?_)
    · skip
      omega
    · skip
      refine Ev.iload (q := 39) dX3_letBoyPress_37 rfl rfl ?_
      refine Ev.iload_n (q := 40) dX3_letBoyPress_39 rfl rfl ?_
      refine Ev.iconst (q := 41) dX3_letBoyPress_40 ki_m1 rfl ?_
      refine Ev.ixor (q := 42) dX3_letBoyPress_41 rfl ?_
      refine Ev.iand (q := 43) dX3_letBoyPress_42 rfl ?_
      rw [iandn_n (by omega)]
      refine Ev.if_ne (tgt := 89) (q := 46) dX3_letBoyPress_43 (by decide) rfl (fun h2 => ?_) (fun h2 => ?_)
      · skip
        refine iinc_10 (q := 92) dX3_letBoyPress_89 rfl rfl rfl ?_
        refine Ev.goto (q := 31) dX3_letBoyPress_92 (by decide) ?_
        rw [w32_of (by omega) (by omega)]
        exact ih (s + 1) a b M _ (by omega) (by omega) hF (by rw [hT, byN_skip (Or.inl (by omega))])
      · skip
        refine Ev.iload (q := 48) dX3_letBoyPress_46 rfl rfl ?_
        refine cS1i (q := 51) (d' := d + 5) dX3_letBoyPress_48 mlX3_111 moJ6_bitCount_0f7a4 msJ6_bitCount_0f7a4 rfl rfl (Nat.le_refl _) rfl rfl rfl (p_J6_bitCount_0f7a4 s (by omega)) (fun r3 m3 e3 => ?_)
        obtain ⟨rfl, e3⟩ := e3
        obtain rfl := e3.symm
        refine Ev.iload_n (q := 52) dX3_letBoyPress_51 rfl rfl ?_
        refine Ev.icmp_eq (tgt := 58) (q := 55) dX3_letBoyPress_52 (by decide) rfl (fun h4 => ?_) (fun h4 => ?_)
        · skip
          have hd : dif s w = 0 := by omega
          have hpn : pop s = n := by omega
          have hlit : litOk g l (litV g l ||| s) := litOk_orS (hI.litOk hl) (litOk_sub hw hd (by omega))
          refine Ev.lload (q := 60) dX3_letBoyPress_58 rfl rfl ?_
          refine Ev.aload_n (q := 61) dX3_letBoyPress_60 rfl rfl ?_
          refine Ev.iload_n (q := 62) dX3_letBoyPress_61 rfl rfl ?_
          refine Ev.aload_n (q := 63) dX3_letBoyPress_62 rfl rfl ?_
          refine gR (q := 66) dX3_letBoyPress_63 gfX3_36 k68 r68_1 rfl rfl ?_
          refine gR (q := 69) dX3_letBoyPress_66 gfX3_109 k44 r44_2 rfl rfl ?_
          refine Ev.iload_n (q := 70) dX3_letBoyPress_69 rfl rfl ?_
          refine aI (q := 71) (k := l) dX3_letBoyPress_70 k47 (by first | rfl | omega | (simp (disch := omega) only [w32_of]; omega)) (by omega) rfl ?_
          rw [e47]
          refine Ev.iload (q := 73) dX3_letBoyPress_71 rfl rfl ?_
          refine Ev.ior (q := 74) dX3_letBoyPress_73 rfl ?_
          rw [ior_n (k := 12) ((hI.litOk hl).lt hI) (by omega) (by omega)]
          refine cV2j (q := 77) (d' := d + 5) dX3_letBoyPress_74 mlX3_105 moX3_sumWith mvX3_sumWith k68 rfl rfl rfl (Nat.le_refl _) rfl rfl rfl (p_X3_sumWith g l (litV g l ||| s) hI hl (hH.keep (fun a h1 h2 => hF.row a (fun _ => sLi_f (by omega)))) (hN.keep (fun a h1 h2 => hF.row a (fun _ => sLi_f (by omega)))) hlit) (fun r5 m5 e5 => ?_)
          obtain ⟨M9, rfl⟩ : ∃ M9, M9 = m5 := ⟨_, rfl⟩
          obtain ⟨y1, y8, y9⟩ := e5
          subst y1
          refine Ev.lload (q := 79) dX3_letBoyPress_77 rfl rfl ?_
          refine Ev.lsub (q := 80) dX3_letBoyPress_79 rfl ?_
          refine Ev.ladd (q := 81) dX3_letBoyPress_80 rfl ?_
          refine lstore_6 (q := 83) dX3_letBoyPress_81 rfl rfl rfl ?_
          refine Ev.lload (q := 85) dX3_letBoyPress_83 rfl rfl ?_
          refine Ev.lconst (q := 86) dX3_letBoyPress_85 kj_1 rfl ?_
          refine Ev.ladd (q := 87) dX3_letBoyPress_86 rfl ?_
          rw [w64_of (z := b + 1) (by omega) (by omega)]
          refine lstore_8 (q := 89) dX3_letBoyPress_87 rfl rfl rfl ?_
          refine iinc_10 (q := 92) dX3_letBoyPress_89 rfl rfl rfl ?_
          refine Ev.goto (q := 31) dX3_letBoyPress_92 (by decide) ?_
          rw [w32_of (by omega) (by omega)]
          refine ih (s + 1) _ (b + 1) M9 _ (by omega) (by omega) (hF.tr y9) (by rw [hT, byN_take (fun z => z.elim (fun y => y hd) (fun y => y hpn))])
        · skip
          refine Ev.goto (q := 89) dX3_letBoyPress_55 (by decide) ?_
          refine iinc_10 (q := 92) dX3_letBoyPress_89 rfl rfl rfl ?_
          refine Ev.goto (q := 31) dX3_letBoyPress_92 (by decide) ?_
          rw [w32_of (by omega) (by omega)]
          exact ih (s + 1) a b M _ (by omega) (by omega) hF (by rw [hT, byN_skip (Or.inr (by omega))])
set_option maxRecDepth 4000 in
theorem p_X3_letBoyPress {Γ : Gm} {d : Nat} {m : Mem} (g : Row) (l n : Nat) (hI : HI g) (hl : (l : Int) < g 2) (hH : HouR g m 33) (hN : NowR g m 44) (hn : n ≤ pop (freS g l)) : Ci Γ (d + 6) MX3_letBoyPress [rv 68, iv l, iv n] m (fun r m' => m' 68 7 = o_ldiv (byV g l n).1 (Int.gcd (byV g l n).1 (byV g l n).2 : Int) ∧ m' 68 8 = o_ldiv (byV g l n).2 (Int.gcd (byV g l n).1 (byV g l n).2 : Int) ∧ Fr sLi m m') := by
  refine Ci.of moX3_letBoyPress rfl rfl (fun hA hM => ?_)
  show Em Γ (d + 6) MX3_letBoyPress _ 0 [rv 68, iv l, iv n, uv, uv, uv, uv, uv, uv, uv, uv, uv] [] m
  have hF12 := hI.1
  have hP8 := hI.2.2.1
  have hL3 := hI.2.1
  have e47 := E47 hI hl hN
  have hfr := freS_ok hI hl
  have hby := byV_ok hI hl hn
  refine Ev.aload_n (q := 1) dX3_letBoyPress_0 rfl rfl ?_
  refine Ev.iload_n (q := 2) dX3_letBoyPress_1 rfl rfl ?_
  refine cV1i (q := 5) (d' := d + 5) dX3_letBoyPress_2 mlX3_123 moX3_unlit mvX3_unlit k68 rfl rfl rfl (Nat.le_refl _) rfl rfl rfl (p_X3_unlit g l hI hl hH hN) (fun r1 m1 e1 => ?_)
  obtain ⟨rfl, e1⟩ := e1
  obtain rfl := e1.symm
  refine istore_n_3 (q := 6) dX3_letBoyPress_5 rfl rfl rfl ?_
  refine Ev.aload_n (q := 7) dX3_letBoyPress_6 rfl rfl ?_
  refine Ev.iload_n (q := 8) dX3_letBoyPress_7 rfl rfl ?_
  refine Ev.aload_n (q := 9) dX3_letBoyPress_8 rfl rfl ?_
  refine gR (q := 12) dX3_letBoyPress_9 gfX3_36 k68 r68_1 rfl rfl ?_
  refine gR (q := 15) dX3_letBoyPress_12 gfX3_109 k44 r44_2 rfl rfl ?_
  refine Ev.iload_n (q := 16) dX3_letBoyPress_15 rfl rfl ?_
  refine aI (q := 17) (k := l) dX3_letBoyPress_16 k47 (by first | rfl | omega | (simp (disch := omega) only [w32_of]; omega)) (by omega) rfl ?_
  rw [e47]
  refine cV2j (q := 20) (d' := d + 5) dX3_letBoyPress_17 mlX3_105 moX3_sumWith mvX3_sumWith k68 rfl rfl rfl (Nat.le_refl _) rfl rfl rfl (p_X3_sumWith g l (litV g l) hI hl hH hN (hI.litOk hl)) (fun r2 m2 e2 => ?_)
  obtain ⟨M9, rfl⟩ : ∃ M9, M9 = m2 := ⟨_, rfl⟩
  obtain ⟨y1, y8, y9⟩ := e2
  subst y1
  refine lstore_4 (q := 22) dX3_letBoyPress_20 rfl rfl rfl ?_
  refine Ev.lconst (q := 23) dX3_letBoyPress_22 kj_0 rfl ?_
  refine lstore_6 (q := 25) dX3_letBoyPress_23 rfl rfl rfl ?_
  refine Ev.lconst (q := 26) dX3_letBoyPress_25 kj_0 rfl ?_
  refine lstore_8 (q := 28) dX3_letBoyPress_26 rfl rfl rfl ?_
  refine Ev.iconst (q := 29) dX3_letBoyPress_28 ki_0 rfl ?_
  refine istore_10 (q := 31) dX3_letBoyPress_29 rfl rfl rfl ?_
  have hfl : litOk g l (freS g l) := hfr
  refine l_boyN (m0 := m) g l hI hl hH hN n (freS g l) (byV g l n) hfl (hfl.lt hI) (fun M a b v11 s hT' hF => ?_) (freS g l + 1) 0 0 0 M9 uv (by omega) (by omega) y9 rfl
  obtain ⟨ha, hb1, hb2⟩ : (-100000000000000000 ≤ a ∧ a ≤ 100000000000000000) ∧ 0 < b ∧ b ≤ 4096 := by rw [hT'] at hby; exact hby
  obtain ⟨bn, hbn⟩ : ∃ bn : Nat, b = bn := ⟨b.toNat, by omega⟩
  refine Ev.lload (q := 97) dX3_letBoyPress_95 rfl rfl ?_
  refine cS1j (q := 100) (d' := d + 5) dX3_letBoyPress_97 mlX3_126 moJ9_abs_067f4 msJ9_abs_067f4 rfl rfl (Nat.le_refl _) rfl rfl rfl (p_J9_abs_067f4 _) (fun r1 m1 e1 => ?_)
  obtain ⟨rfl, e1⟩ := e1
  obtain rfl := e1.symm
  rw [show (if a < 0 then w64 (-a) else a) = ((a.natAbs : Nat) : Int) from abs_n ha, hbn]
  refine Ev.lload (q := 102) dX3_letBoyPress_100 rfl rfl ?_
  refine cS2j (q := 105) (d' := d + 5) dX3_letBoyPress_102 mlX3_130 moX3_commonDivisor msX3_commonDivisor rfl rfl (Nat.le_refl _) rfl rfl rfl (p_X3_commonDivisor a.natAbs bn (by omega) (by omega)) (fun r2 m2 e2 => ?_)
  obtain ⟨rfl, e2⟩ := e2
  obtain rfl := e2.symm
  have hgp : 0 < Nat.gcd a.natAbs bn := Nat.gcd_pos_of_pos_right _ (by omega)
  have hgl : Nat.gcd a.natAbs bn ≤ bn := Nat.gcd_le_right _ (by omega)
  obtain ⟨G, hG⟩ : ∃ G, G = Nat.gcd a.natAbs bn := ⟨_, rfl⟩
  rw [← hG] at hgp hgl ⊢
  have zg := lcmp_gt (show w64 ((G : Nat) : Int) = G from w64_of (by omega) (by omega)) w0'
  refine lstore_10 (q := 107) dX3_letBoyPress_105 rfl rfl rfl ?_
  refine Ev.aload_n (q := 108) dX3_letBoyPress_107 rfl rfl ?_
  refine Ev.lload (q := 110) dX3_letBoyPress_108 rfl rfl ?_
  refine Ev.lconst (q := 111) dX3_letBoyPress_110 kj_0 rfl ?_
  refine Ev.lcmp (q := 112) dX3_letBoyPress_111 rfl ?_
  refine Ev.if_le (tgt := 123) (q := 115) dX3_letBoyPress_112 (by decide) rfl (fun h3 => ?_) (fun h3 => ?_)
  · skip
    omega
  · skip
    refine Ev.lload (q := 117) dX3_letBoyPress_115 rfl rfl ?_
    refine Ev.lload (q := 119) dX3_letBoyPress_117 rfl rfl ?_
    refine Ev.ldiv (q := 120) dX3_letBoyPress_119 (by omega) rfl ?_
    refine Ev.goto (q := 124) dX3_letBoyPress_120 (by decide) ?_
    refine pJ (q := 127) dX3_letBoyPress_124 gfX3_26 k68 rfl rfl ?_
    refine Ev.aload_n (q := 128) dX3_letBoyPress_127 rfl rfl ?_
    refine Ev.lload (q := 130) dX3_letBoyPress_128 rfl rfl ?_
    refine Ev.lconst (q := 131) dX3_letBoyPress_130 kj_0 rfl ?_
    refine Ev.lcmp (q := 132) dX3_letBoyPress_131 rfl ?_
    refine Ev.if_le (tgt := 143) (q := 135) dX3_letBoyPress_132 (by decide) rfl (fun h4 => ?_) (fun h4 => ?_)
    · skip
      omega
    · skip
      refine Ev.lload (q := 137) dX3_letBoyPress_135 rfl rfl ?_
      refine Ev.lload (q := 139) dX3_letBoyPress_137 rfl rfl ?_
      refine Ev.ldiv (q := 140) dX3_letBoyPress_139 (by omega) rfl ?_
      refine Ev.goto (q := 144) dX3_letBoyPress_140 (by decide) ?_
      refine pJ (q := 147) dX3_letBoyPress_144 gfX3_29 k68 rfl rfl ?_
      refine rV dX3_letBoyPress_147 rfl ?_
      refine ⟨?_, ?_, (hF.up rfl).up rfl⟩
      · rw [up_k _ _ (by decide), up_eq, hT', hG]
        dsimp only
        rw [hbn]
        rfl
      · rw [up_eq, hT', hG]
        dsimp only
        rw [hbn]
        rfl
