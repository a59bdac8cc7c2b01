/-! ===== the class: which lights to leave, to turn ===== -/
theorem kep_start {g : Row} (hI : HI g) {l : Nat} (fair : Bool) : keptV g l fair = kep (fun s => valV g l s fair) (litV g l) (litV g l) 1 0 (valV g l 0 fair) := by
  unfold keptV
  conv => lhs; unfold kep
  have hd : dif 0 (litV g l) = 0 := by apply Nat.eq_of_testBit_eq; intro i; rw [dif_bit, Nat.zero_testBit]; rfl
  have hb := valV_bd hI l 0 fair
  rw [if_neg (fun z => z hd), if_neg (by omega)]
theorem kep_skip {val : Nat → Int} {w q s b : Nat} {ls : Int} (h : ¬ dif s w = 0) : kep val w (q + 1) s b ls = kep val w q (s + 1) b ls := by conv => lhs; unfold kep; rw [if_pos h]
theorem kep_keep {val : Nat → Int} {w q s b : Nat} {ls : Int} (hd : dif s w = 0) (h : ls < val s ∨ (val s = ls ∧ pop b ≤ pop s)) : kep val w (q + 1) s b ls = kep val w q (s + 1) b ls := by conv => lhs; unfold kep; rw [if_neg (fun z => z hd), if_pos h]
theorem kep_take {val : Nat → Int} {w q s b : Nat} {ls : Int} (hd : dif s w = 0) (h : ¬ (ls < val s ∨ (val s = ls ∧ pop b ≤ pop s))) : kep val w (q + 1) s b ls = kep val w q (s + 1) s (val s) := by conv => lhs; unfold kep; rw [if_neg (fun z => z hd), if_neg h]
theorem valV_w {g : Row} (hI : HI g) (l s : Nat) (fair : Bool) : w64 (valV g l s fair) = valV g l s fair := by have := valV_bd hI l s fair; exact w64_of (by omega) (by omega)
set_option maxRecDepth 4000 in
theorem l_keptFor_true {Γ : Gm} {d : Nat} {m0 : Mem} (g : Row) (l : Nat) (hI : HI g) (hl : (l : Int) < g 2) (hH : HouR g m0 33) (hN : NowR g m0 44) (w T : Nat) (hw : litOk g l w) (hw12 : w < 4096) : ∀ (q s b : Nat) (ls : Int) (M : Mem) (v8 v9 v10 : Vl), s + q = w + 1 → b < 4096 → w64 ls = ls → Fr sLi m0 M → T = kep (fun s => valV g l s true) w q s b ls → Em Γ (d + 6) MX3_keptFor (fun r m' => r = (T : Int) ∧ Fr sLi m0 m') 38 [rv 68, iv l, iv 1, iv b, jv ls, uv, iv w, iv s, v8, v9, v10] [] M := by
  have hF12 := hI.1
  have hP8 := hI.2.2.1
  have hL3 := hI.2.1
  intro q
  induction q with
  | zero =>
    intro s b ls M v8 v9 v10 hk hb hls hF hT
    refine Ev.iload (q := 40) dX3_keptFor_38 rfl rfl ?_
    refine Ev.iload (q := 42) dX3_keptFor_40 rfl rfl ?_
    refine Ev.icmp_gt (tgt := 135) (q := 45) dX3_keptFor_42 (by decide) rfl (fun h1 => ?_) (fun h1 => ?_)
    · skip
      refine Ev.iload_n (q := 136) dX3_keptFor_135 rfl rfl ?_
      refine rI dX3_keptFor_136 rfl ?_
      exact ⟨by rw [hT]; rfl, hF⟩
    · skip
      omega
  | succ q ih =>
    intro s b ls M v8 v9 v10 hk hb hls hF hT
    refine Ev.iload (q := 40) dX3_keptFor_38 rfl rfl ?_
    refine Ev.iload (q := 42) dX3_keptFor_40 rfl rfl ?_
    refine Ev.icmp_gt (tgt := 135) (q := 45) dX3_keptFor_42 (by decide) rfl (fun h1 => ?_) (fun h1 => ?_)
    · skip
      omega
    · skip
      refine Ev.iload (q := 47) dX3_keptFor_45 rfl rfl ?_
      refine Ev.iload (q := 49) dX3_keptFor_47 rfl rfl ?_
      refine Ev.iconst (q := 50) dX3_keptFor_49 ki_m1 rfl ?_
      refine Ev.ixor (q := 51) dX3_keptFor_50 rfl ?_
      refine Ev.iand (q := 52) dX3_keptFor_51 rfl ?_
      rw [iandn_n (by omega)]
      refine Ev.if_eq (tgt := 58) (q := 55) dX3_keptFor_52 (by decide) rfl (fun h2 => ?_) (fun h2 => ?_)
      · skip
        have hd : dif s w = 0 := by omega
        have hlit := litOk_sub hw hd (by omega)
        refine Ev.iload_n (q := 59) dX3_keptFor_58 rfl rfl ?_
        refine Ev.if_eq (tgt := 73) (q := 62) dX3_keptFor_59 (by decide) rfl (fun h3 => ?_) (fun h3 => ?_)
        · skip
          omega
        · skip
          refine Ev.aload_n (q := 63) dX3_keptFor_62 rfl rfl ?_
          refine Ev.iload_n (q := 64) dX3_keptFor_63 rfl rfl ?_
          refine Ev.iload (q := 66) dX3_keptFor_64 rfl rfl ?_
          refine cV2i (q := 69) (d' := d + 5) dX3_keptFor_66 mlX3_102 moX3_lastWith mvX3_lastWith k68 rfl rfl rfl (Nat.le_refl _) rfl rfl rfl (p_X3_lastWith g l s hI hl (hH.keep (fun a h1 h2 => hF.row a (fun _ => sLi_f (by omega)))) (hN.keep (fun a h1 h2 => hF.row a (fun _ => sLi_f (by omega)))) hlit) (fun r4 m4 e4 => ?_)
          obtain ⟨M9, rfl⟩ : ∃ M9, M9 = m4 := ⟨_, rfl⟩
          obtain ⟨y1, y8, y9⟩ := e4
          have y1' : r4 = valV g l s true := y1
          subst y1'
          have z1 := lcmp_lt (valV_w hI l s true) hls
          have z2 := lcmp_z (valV_w hI l s true) hls
          have z3 : valV g l s true = (fun s => valV g l s true) s := rfl
          refine Ev.i2l (q := 70) dX3_keptFor_69 rfl ?_
          refine Ev.goto (q := 80) dX3_keptFor_70 (by decide) ?_
          refine lstore_8 (q := 82) dX3_keptFor_80 rfl rfl rfl ?_
          refine Ev.lload (q := 84) dX3_keptFor_82 rfl rfl ?_
          refine Ev.lload (q := 86) dX3_keptFor_84 rfl rfl ?_
          refine Ev.lcmp (q := 87) dX3_keptFor_86 rfl ?_
          refine Ev.if_ne (tgt := 106) (q := 90) dX3_keptFor_87 (by decide) rfl (fun h5 => ?_) (fun h5 => ?_)
          · skip
            refine Ev.iconst (q := 107) dX3_keptFor_106 ki_0 rfl ?_
            refine istore_10 (q := 109) dX3_keptFor_107 rfl rfl rfl ?_
            refine Ev.lload (q := 111) dX3_keptFor_109 rfl rfl ?_
            refine Ev.lload (q := 113) dX3_keptFor_111 rfl rfl ?_
            refine Ev.lcmp (q := 114) dX3_keptFor_113 rfl ?_
            refine Ev.if_lt (tgt := 122) (q := 117) dX3_keptFor_114 (by decide) rfl (fun h6 => ?_) (fun h6 => ?_)
            · skip
              refine Ev.lload (q := 124) dX3_keptFor_122 rfl rfl ?_
              refine lstore_4 (q := 126) dX3_keptFor_124 rfl rfl rfl ?_
              refine Ev.iload (q := 128) dX3_keptFor_126 rfl rfl ?_
              refine istore_n_3 (q := 129) dX3_keptFor_128 rfl rfl rfl ?_
              refine iinc_7 (q := 132) dX3_keptFor_129 rfl rfl rfl ?_
              refine Ev.goto (q := 38) dX3_keptFor_132 (by decide) ?_
              rw [w32_of (by omega) (by omega)]
              first
                | exact ih (s + 1) b ls M9 _ _ _ (by omega) hb (hls) (hF.tr y9) (by rw [hT, kep_keep hd (by omega)])
                | exact ih (s + 1) s _ M9 _ _ _ (by omega) (by omega) (valV_w hI l s true) (hF.tr y9) (by rw [hT, kep_take hd (by omega)])
            · skip
              refine Ev.iload (q := 119) dX3_keptFor_117 rfl rfl ?_
              refine Ev.if_eq (tgt := 129) (q := 122) dX3_keptFor_119 (by decide) rfl (fun h7 => ?_) (fun h7 => ?_)
              · skip
                refine iinc_7 (q := 132) dX3_keptFor_129 rfl rfl rfl ?_
                refine Ev.goto (q := 38) dX3_keptFor_132 (by decide) ?_
                rw [w32_of (by omega) (by omega)]
                first
                  | exact ih (s + 1) b ls M9 _ _ _ (by omega) hb (hls) (hF.tr y9) (by rw [hT, kep_keep hd (by omega)])
                  | exact ih (s + 1) s _ M9 _ _ _ (by omega) (by omega) (valV_w hI l s true) (hF.tr y9) (by rw [hT, kep_take hd (by omega)])
              · skip
                refine Ev.lload (q := 124) dX3_keptFor_122 rfl rfl ?_
                refine lstore_4 (q := 126) dX3_keptFor_124 rfl rfl rfl ?_
                refine Ev.iload (q := 128) dX3_keptFor_126 rfl rfl ?_
                refine istore_n_3 (q := 129) dX3_keptFor_128 rfl rfl rfl ?_
                refine iinc_7 (q := 132) dX3_keptFor_129 rfl rfl rfl ?_
                refine Ev.goto (q := 38) dX3_keptFor_132 (by decide) ?_
                rw [w32_of (by omega) (by omega)]
                first
                  | exact ih (s + 1) b ls M9 _ _ _ (by omega) hb (hls) (hF.tr y9) (by rw [hT, kep_keep hd (by omega)])
                  | exact ih (s + 1) s _ M9 _ _ _ (by omega) (by omega) (valV_w hI l s true) (hF.tr y9) (by rw [hT, kep_take hd (by omega)])
          · skip
            refine Ev.iload (q := 92) dX3_keptFor_90 rfl rfl ?_
            refine cS1i (q := 95) (d' := d + 5) dX3_keptFor_92 mlX3_111 moJ6_bitCount_0f7a4 msJ6_bitCount_0f7a4 rfl rfl (Nat.le_refl _) rfl rfl rfl (p_J6_bitCount_0f7a4 s (by omega)) (fun r8 m8 e8 => ?_)
            obtain ⟨rfl, e8⟩ := e8
            obtain rfl := e8.symm
            refine Ev.iload_n (q := 96) dX3_keptFor_95 rfl rfl ?_
            refine cS1i (q := 99) (d' := d + 5) dX3_keptFor_96 mlX3_111 moJ6_bitCount_0f7a4 msJ6_bitCount_0f7a4 rfl rfl (Nat.le_refl _) rfl rfl rfl (p_J6_bitCount_0f7a4 b hb) (fun r9 m9 e9 => ?_)
            obtain ⟨rfl, e9⟩ := e9
            obtain rfl := e9.symm
            refine Ev.icmp_ge (tgt := 106) (q := 102) dX3_keptFor_99 (by decide) rfl (fun h10 => ?_) (fun h10 => ?_)
            · skip
              refine Ev.iconst (q := 107) dX3_keptFor_106 ki_0 rfl ?_
              refine istore_10 (q := 109) dX3_keptFor_107 rfl rfl rfl ?_
              refine Ev.lload (q := 111) dX3_keptFor_109 rfl rfl ?_
              refine Ev.lload (q := 113) dX3_keptFor_111 rfl rfl ?_
              refine Ev.lcmp (q := 114) dX3_keptFor_113 rfl ?_
              refine Ev.if_lt (tgt := 122) (q := 117) dX3_keptFor_114 (by decide) rfl (fun h11 => ?_) (fun h11 => ?_)
              · skip
                refine Ev.lload (q := 124) dX3_keptFor_122 rfl rfl ?_
                refine lstore_4 (q := 126) dX3_keptFor_124 rfl rfl rfl ?_
                refine Ev.iload (q := 128) dX3_keptFor_126 rfl rfl ?_
                refine istore_n_3 (q := 129) dX3_keptFor_128 rfl rfl rfl ?_
                refine iinc_7 (q := 132) dX3_keptFor_129 rfl rfl rfl ?_
                refine Ev.goto (q := 38) dX3_keptFor_132 (by decide) ?_
                rw [w32_of (by omega) (by omega)]
                first
                  | exact ih (s + 1) b ls M9 _ _ _ (by omega) hb (hls) (hF.tr y9) (by rw [hT, kep_keep hd (by omega)])
                  | exact ih (s + 1) s _ M9 _ _ _ (by omega) (by omega) (valV_w hI l s true) (hF.tr y9) (by rw [hT, kep_take hd (by omega)])
              · skip
                refine Ev.iload (q := 119) dX3_keptFor_117 rfl rfl ?_
                refine Ev.if_eq (tgt := 129) (q := 122) dX3_keptFor_119 (by decide) rfl (fun h12 => ?_) (fun h12 => ?_)
                · skip
                  refine iinc_7 (q := 132) dX3_keptFor_129 rfl rfl rfl ?_
                  refine Ev.goto (q := 38) dX3_keptFor_132 (by decide) ?_
                  rw [w32_of (by omega) (by omega)]
                  first
                    | exact ih (s + 1) b ls M9 _ _ _ (by omega) hb (hls) (hF.tr y9) (by rw [hT, kep_keep hd (by omega)])
                    | exact ih (s + 1) s _ M9 _ _ _ (by omega) (by omega) (valV_w hI l s true) (hF.tr y9) (by rw [hT, kep_take hd (by omega)])
                · skip
                  refine Ev.lload (q := 124) dX3_keptFor_122 rfl rfl ?_
                  refine lstore_4 (q := 126) dX3_keptFor_124 rfl rfl rfl ?_
                  refine Ev.iload (q := 128) dX3_keptFor_126 rfl rfl ?_
                  refine istore_n_3 (q := 129) dX3_keptFor_128 rfl rfl rfl ?_
                  refine iinc_7 (q := 132) dX3_keptFor_129 rfl rfl rfl ?_
                  refine Ev.goto (q := 38) dX3_keptFor_132 (by decide) ?_
                  rw [w32_of (by omega) (by omega)]
                  first
                    | exact ih (s + 1) b ls M9 _ _ _ (by omega) hb (hls) (hF.tr y9) (by rw [hT, kep_keep hd (by omega)])
                    | exact ih (s + 1) s _ M9 _ _ _ (by omega) (by omega) (valV_w hI l s true) (hF.tr y9) (by rw [hT, kep_take hd (by omega)])
            · skip
              refine Ev.iconst (q := 103) dX3_keptFor_102 ki_1 rfl ?_
              refine Ev.goto (q := 107) dX3_keptFor_103 (by decide) ?_
              refine istore_10 (q := 109) dX3_keptFor_107 rfl rfl rfl ?_
              refine Ev.lload (q := 111) dX3_keptFor_109 rfl rfl ?_
              refine Ev.lload (q := 113) dX3_keptFor_111 rfl rfl ?_
              refine Ev.lcmp (q := 114) dX3_keptFor_113 rfl ?_
              refine Ev.if_lt (tgt := 122) (q := 117) dX3_keptFor_114 (by decide) rfl (fun h13 => ?_) (fun h13 => ?_)
              · skip
                refine Ev.lload (q := 124) dX3_keptFor_122 rfl rfl ?_
                refine lstore_4 (q := 126) dX3_keptFor_124 rfl rfl rfl ?_
                refine Ev.iload (q := 128) dX3_keptFor_126 rfl rfl ?_
                refine istore_n_3 (q := 129) dX3_keptFor_128 rfl rfl rfl ?_
                refine iinc_7 (q := 132) dX3_keptFor_129 rfl rfl rfl ?_
                refine Ev.goto (q := 38) dX3_keptFor_132 (by decide) ?_
                rw [w32_of (by omega) (by omega)]
                first
                  | exact ih (s + 1) b ls M9 _ _ _ (by omega) hb (hls) (hF.tr y9) (by rw [hT, kep_keep hd (by omega)])
                  | exact ih (s + 1) s _ M9 _ _ _ (by omega) (by omega) (valV_w hI l s true) (hF.tr y9) (by rw [hT, kep_take hd (by omega)])
              · skip
                refine Ev.iload (q := 119) dX3_keptFor_117 rfl rfl ?_
                refine Ev.if_eq (tgt := 129) (q := 122) dX3_keptFor_119 (by decide) rfl (fun h14 => ?_) (fun h14 => ?_)
                · skip
                  refine iinc_7 (q := 132) dX3_keptFor_129 rfl rfl rfl ?_
                  refine Ev.goto (q := 38) dX3_keptFor_132 (by decide) ?_
                  rw [w32_of (by omega) (by omega)]
                  first
                    | exact ih (s + 1) b ls M9 _ _ _ (by omega) hb (hls) (hF.tr y9) (by rw [hT, kep_keep hd (by omega)])
                    | exact ih (s + 1) s _ M9 _ _ _ (by omega) (by omega) (valV_w hI l s true) (hF.tr y9) (by rw [hT, kep_take hd (by omega)])
                · skip
                  refine Ev.lload (q := 124) dX3_keptFor_122 rfl rfl ?_
                  refine lstore_4 (q := 126) dX3_keptFor_124 rfl rfl rfl ?_
                  refine Ev.iload (q := 128) dX3_keptFor_126 rfl rfl ?_
                  refine istore_n_3 (q := 129) dX3_keptFor_128 rfl rfl rfl ?_
                  refine iinc_7 (q := 132) dX3_keptFor_129 rfl rfl rfl ?_
                  refine Ev.goto (q := 38) dX3_keptFor_132 (by decide) ?_
                  rw [w32_of (by omega) (by omega)]
                  first
                    | exact ih (s + 1) b ls M9 _ _ _ (by omega) hb (hls) (hF.tr y9) (by rw [hT, kep_keep hd (by omega)])
                    | exact ih (s + 1) s _ M9 _ _ _ (by omega) (by omega) (valV_w hI l s true) (hF.tr y9) (by rw [hT, kep_take hd (by omega)])
      · skip
        have hnd : ¬ dif s w = 0 := by omega
        refine Ev.goto (q := 129) dX3_keptFor_55 (by decide) ?_
        refine iinc_7 (q := 132) dX3_keptFor_129 rfl rfl rfl ?_
        refine Ev.goto (q := 38) dX3_keptFor_132 (by decide) ?_
        rw [w32_of (by omega) (by omega)]
        exact ih (s + 1) b ls M _ _ _ (by omega) hb hls hF (by rw [hT, kep_skip hnd])
set_option maxRecDepth 4000 in
theorem p_X3_keptFor_true {Γ : Gm} {d : Nat} {m : Mem} (g : Row) (l : Nat) (hI : HI g) (hl : (l : Int) < g 2) (hH : HouR g m 33) (hN : NowR g m 44) : Ci Γ (d + 6) MX3_keptFor [rv 68, iv l, iv 1] m (fun r m' => r = (keptV g l true : Int) ∧ Fr sLi m m') := by
  refine Ci.of moX3_keptFor rfl rfl (fun hA hM => ?_)
  show Em Γ (d + 6) MX3_keptFor _ 0 [rv 68, iv l, iv 1, uv, uv, uv, uv, uv, uv, uv, uv] [] m
  have hF12 := hI.1
  have hP8 := hI.2.2.1
  have hL3 := hI.2.1
  have hlk := hI.litOk hl
  have e47 : m 47 l = (litV g l : Int) := by rw [(hN.1 l hl).2.2.1]; unfold litV; have := (hI.lift hl).2.1.1; omega
  refine Ev.iconst (q := 1) dX3_keptFor_0 ki_0 rfl ?_
  refine istore_n_3 (q := 2) dX3_keptFor_1 rfl rfl rfl ?_
  refine Ev.iload_n (q := 3) dX3_keptFor_2 rfl rfl ?_
  refine Ev.if_eq (tgt := 16) (q := 6) dX3_keptFor_3 (by decide) rfl (fun h1 => ?_) (fun h1 => ?_)
  · skip
    omega
  · skip
    refine Ev.aload_n (q := 7) dX3_keptFor_6 rfl rfl ?_
    refine Ev.iload_n (q := 8) dX3_keptFor_7 rfl rfl ?_
    refine Ev.iconst (q := 9) dX3_keptFor_8 ki_0 rfl ?_
    refine cV2i (q := 12) (d' := d + 5) dX3_keptFor_9 mlX3_102 moX3_lastWith mvX3_lastWith k68 rfl rfl rfl (Nat.le_refl _) rfl rfl rfl (p_X3_lastWith g l 0 hI hl hH hN ⟨Nat.two_pow_pos _, Nat.zero_testBit _⟩) (fun r2 m2 e2 => ?_)
    obtain ⟨M9, rfl⟩ : ∃ M9, M9 = m2 := ⟨_, rfl⟩
    obtain ⟨y1, y8, y9⟩ := e2
    have y1' : r2 = valV g l 0 true := y1
    subst y1'
    refine Ev.i2l (q := 13) dX3_keptFor_12 rfl ?_
    refine Ev.goto (q := 22) dX3_keptFor_13 (by decide) ?_
    refine lstore_4 (q := 24) dX3_keptFor_22 rfl rfl rfl ?_
    refine Ev.aload_n (q := 25) dX3_keptFor_24 rfl rfl ?_
    refine gR (q := 28) dX3_keptFor_25 gfX3_36 k68 r68_1 rfl rfl ?_
    refine gR (q := 31) dX3_keptFor_28 gfX3_109 k44 r44_2 rfl rfl ?_
    refine Ev.iload_n (q := 32) dX3_keptFor_31 rfl rfl ?_
    refine aI (q := 33) (k := l) dX3_keptFor_32 k47 (by first | rfl | omega | (simp (disch := omega) only [w32_of]; omega)) (by omega) rfl ?_
    rw [show M9 47 l = (litV g l : Int) by rw [y9 47 l rfl]; exact e47]
    refine istore_6 (q := 35) dX3_keptFor_33 rfl rfl rfl ?_
    refine Ev.iconst (q := 36) dX3_keptFor_35 ki_1 rfl ?_
    refine istore_7 (q := 38) dX3_keptFor_36 rfl rfl rfl ?_
    exact l_keptFor_true g l hI hl hH hN (litV g l) (keptV g l true) hlk (hlk.lt hI) (litV g l) 1 0 _ M9 _ _ _ (by omega) (by decide) (valV_w hI l 0 true) y9 (kep_start hI true)
set_option maxRecDepth 4000 in
theorem l_keptFor_false {Γ : Gm} {d : Nat} {m0 : Mem} (g : Row) (l : Nat) (hI : HI g) (hl : (l : Int) < g 2) (hH : HouR g m0 33) (hN : NowR g m0 44) (w T : Nat) (hw : litOk g l w) (hw12 : w < 4096) : ∀ (q s b : Nat) (ls : Int) (M : Mem) (v8 v9 v10 : Vl), s + q = w + 1 → b < 4096 → w64 ls = ls → Fr sLi m0 M → T = kep (fun s => valV g l s false) w q s b ls → Em Γ (d + 6) MX3_keptFor (fun r m' => r = (T : Int) ∧ Fr sLi m0 m') 38 [rv 68, iv l, iv 0, iv b, jv ls, uv, iv w, iv s, v8, v9, v10] [] M := by
  have hF12 := hI.1
  have hP8 := hI.2.2.1
  have hL3 := hI.2.1
  intro q
  induction q with
  | zero =>
    intro s b ls M v8 v9 v10 hk hb hls hF hT
    refine Ev.iload (q := 40) dX3_keptFor_38 rfl rfl ?_
    refine Ev.iload (q := 42) dX3_keptFor_40 rfl rfl ?_
    refine Ev.icmp_gt (tgt := 135) (q := 45) dX3_keptFor_42 (by decide) rfl (fun h1 => ?_) (fun h1 => ?_)
    · skip
      refine Ev.iload_n (q := 136) dX3_keptFor_135 rfl rfl ?_
      refine rI dX3_keptFor_136 rfl ?_
      exact ⟨by rw [hT]; rfl, hF⟩
    · skip
      omega
  | succ q ih =>
    intro s b ls M v8 v9 v10 hk hb hls hF hT
    refine Ev.iload (q := 40) dX3_keptFor_38 rfl rfl ?_
    refine Ev.iload (q := 42) dX3_keptFor_40 rfl rfl ?_
    refine Ev.icmp_gt (tgt := 135) (q := 45) dX3_keptFor_42 (by decide) rfl (fun h1 => ?_) (fun h1 => ?_)
    · skip
      omega
    · skip
      refine Ev.iload (q := 47) dX3_keptFor_45 rfl rfl ?_
      refine Ev.iload (q := 49) dX3_keptFor_47 rfl rfl ?_
      refine Ev.iconst (q := 50) dX3_keptFor_49 ki_m1 rfl ?_
      refine Ev.ixor (q := 51) dX3_keptFor_50 rfl ?_
      refine Ev.iand (q := 52) dX3_keptFor_51 rfl ?_
      rw [iandn_n (by omega)]
      refine Ev.if_eq (tgt := 58) (q := 55) dX3_keptFor_52 (by decide) rfl (fun h2 => ?_) (fun h2 => ?_)
      · skip
        have hd : dif s w = 0 := by omega
        have hlit := litOk_sub hw hd (by omega)
        refine Ev.iload_n (q := 59) dX3_keptFor_58 rfl rfl ?_
        refine Ev.if_eq (tgt := 73) (q := 62) dX3_keptFor_59 (by decide) rfl (fun h3 => ?_) (fun h3 => ?_)
        · skip
          refine Ev.aload_n (q := 74) dX3_keptFor_73 rfl rfl ?_
          refine Ev.iload_n (q := 75) dX3_keptFor_74 rfl rfl ?_
          refine Ev.iload (q := 77) dX3_keptFor_75 rfl rfl ?_
          refine cV2j (q := 80) (d' := d + 5) dX3_keptFor_77 mlX3_105 moX3_sumWith mvX3_sumWith k68 rfl rfl rfl (Nat.le_refl _) rfl rfl rfl (p_X3_sumWith g l s hI hl (hH.keep (fun a h1 h2 => hF.row a (fun _ => sLi_f (by omega)))) (hN.keep (fun a h1 h2 => hF.row a (fun _ => sLi_f (by omega)))) hlit) (fun r4 m4 e4 => ?_)
          obtain ⟨M9, rfl⟩ : ∃ M9, M9 = m4 := ⟨_, rfl⟩
          obtain ⟨y1, y8, y9⟩ := e4
          have y1' : r4 = valV g l s false := y1
          subst y1'
          have z1 := lcmp_lt (valV_w hI l s false) hls
          have z2 := lcmp_z (valV_w hI l s false) hls
          have z3 : valV g l s false = (fun s => valV g l s false) s := rfl
          refine lstore_8 (q := 82) dX3_keptFor_80 rfl rfl rfl ?_
          refine Ev.lload (q := 84) dX3_keptFor_82 rfl rfl ?_
          refine Ev.lload (q := 86) dX3_keptFor_84 rfl rfl ?_
          refine Ev.lcmp (q := 87) dX3_keptFor_86 rfl ?_
          refine Ev.if_ne (tgt := 106) (q := 90) dX3_keptFor_87 (by decide) rfl (fun h5 => ?_) (fun h5 => ?_)
          · skip
            refine Ev.iconst (q := 107) dX3_keptFor_106 ki_0 rfl ?_
            refine istore_10 (q := 109) dX3_keptFor_107 rfl rfl rfl ?_
            refine Ev.lload (q := 111) dX3_keptFor_109 rfl rfl ?_
            refine Ev.lload (q := 113) dX3_keptFor_111 rfl rfl ?_
            refine Ev.lcmp (q := 114) dX3_keptFor_113 rfl ?_
            refine Ev.if_lt (tgt := 122) (q := 117) dX3_keptFor_114 (by decide) rfl (fun h6 => ?_) (fun h6 => ?_)
            · skip
              refine Ev.lload (q := 124) dX3_keptFor_122 rfl rfl ?_
              refine lstore_4 (q := 126) dX3_keptFor_124 rfl rfl rfl ?_
              refine Ev.iload (q := 128) dX3_keptFor_126 rfl rfl ?_
              refine istore_n_3 (q := 129) dX3_keptFor_128 rfl rfl rfl ?_
              refine iinc_7 (q := 132) dX3_keptFor_129 rfl rfl rfl ?_
              refine Ev.goto (q := 38) dX3_keptFor_132 (by decide) ?_
              rw [w32_of (by omega) (by omega)]
              first
                | exact ih (s + 1) b ls M9 _ _ _ (by omega) hb (hls) (hF.tr y9) (by rw [hT, kep_keep hd (by omega)])
                | exact ih (s + 1) s _ M9 _ _ _ (by omega) (by omega) (valV_w hI l s false) (hF.tr y9) (by rw [hT, kep_take hd (by omega)])
            · skip
              refine Ev.iload (q := 119) dX3_keptFor_117 rfl rfl ?_
              refine Ev.if_eq (tgt := 129) (q := 122) dX3_keptFor_119 (by decide) rfl (fun h7 => ?_) (fun h7 => ?_)
              · skip
                refine iinc_7 (q := 132) dX3_keptFor_129 rfl rfl rfl ?_
                refine Ev.goto (q := 38) dX3_keptFor_132 (by decide) ?_
                rw [w32_of (by omega) (by omega)]
                first
                  | exact ih (s + 1) b ls M9 _ _ _ (by omega) hb (hls) (hF.tr y9) (by rw [hT, kep_keep hd (by omega)])
                  | exact ih (s + 1) s _ M9 _ _ _ (by omega) (by omega) (valV_w hI l s false) (hF.tr y9) (by rw [hT, kep_take hd (by omega)])
              · skip
                refine Ev.lload (q := 124) dX3_keptFor_122 rfl rfl ?_
                refine lstore_4 (q := 126) dX3_keptFor_124 rfl rfl rfl ?_
                refine Ev.iload (q := 128) dX3_keptFor_126 rfl rfl ?_
                refine istore_n_3 (q := 129) dX3_keptFor_128 rfl rfl rfl ?_
                refine iinc_7 (q := 132) dX3_keptFor_129 rfl rfl rfl ?_
                refine Ev.goto (q := 38) dX3_keptFor_132 (by decide) ?_
                rw [w32_of (by omega) (by omega)]
                first
                  | exact ih (s + 1) b ls M9 _ _ _ (by omega) hb (hls) (hF.tr y9) (by rw [hT, kep_keep hd (by omega)])
                  | exact ih (s + 1) s _ M9 _ _ _ (by omega) (by omega) (valV_w hI l s false) (hF.tr y9) (by rw [hT, kep_take hd (by omega)])
          · skip
            refine Ev.iload (q := 92) dX3_keptFor_90 rfl rfl ?_
            refine cS1i (q := 95) (d' := d + 5) dX3_keptFor_92 mlX3_111 moJ6_bitCount_0f7a4 msJ6_bitCount_0f7a4 rfl rfl (Nat.le_refl _) rfl rfl rfl (p_J6_bitCount_0f7a4 s (by omega)) (fun r8 m8 e8 => ?_)
            obtain ⟨rfl, e8⟩ := e8
            obtain rfl := e8.symm
            refine Ev.iload_n (q := 96) dX3_keptFor_95 rfl rfl ?_
            refine cS1i (q := 99) (d' := d + 5) dX3_keptFor_96 mlX3_111 moJ6_bitCount_0f7a4 msJ6_bitCount_0f7a4 rfl rfl (Nat.le_refl _) rfl rfl rfl (p_J6_bitCount_0f7a4 b hb) (fun r9 m9 e9 => ?_)
            obtain ⟨rfl, e9⟩ := e9
            obtain rfl := e9.symm
            refine Ev.icmp_ge (tgt := 106) (q := 102) dX3_keptFor_99 (by decide) rfl (fun h10 => ?_) (fun h10 => ?_)
            · skip
              refine Ev.iconst (q := 107) dX3_keptFor_106 ki_0 rfl ?_
              refine istore_10 (q := 109) dX3_keptFor_107 rfl rfl rfl ?_
              refine Ev.lload (q := 111) dX3_keptFor_109 rfl rfl ?_
              refine Ev.lload (q := 113) dX3_keptFor_111 rfl rfl ?_
              refine Ev.lcmp (q := 114) dX3_keptFor_113 rfl ?_
              refine Ev.if_lt (tgt := 122) (q := 117) dX3_keptFor_114 (by decide) rfl (fun h11 => ?_) (fun h11 => ?_)
              · skip
                refine Ev.lload (q := 124) dX3_keptFor_122 rfl rfl ?_
                refine lstore_4 (q := 126) dX3_keptFor_124 rfl rfl rfl ?_
                refine Ev.iload (q := 128) dX3_keptFor_126 rfl rfl ?_
                refine istore_n_3 (q := 129) dX3_keptFor_128 rfl rfl rfl ?_
                refine iinc_7 (q := 132) dX3_keptFor_129 rfl rfl rfl ?_
                refine Ev.goto (q := 38) dX3_keptFor_132 (by decide) ?_
                rw [w32_of (by omega) (by omega)]
                first
                  | exact ih (s + 1) b ls M9 _ _ _ (by omega) hb (hls) (hF.tr y9) (by rw [hT, kep_keep hd (by omega)])
                  | exact ih (s + 1) s _ M9 _ _ _ (by omega) (by omega) (valV_w hI l s false) (hF.tr y9) (by rw [hT, kep_take hd (by omega)])
              · skip
                refine Ev.iload (q := 119) dX3_keptFor_117 rfl rfl ?_
                refine Ev.if_eq (tgt := 129) (q := 122) dX3_keptFor_119 (by decide) rfl (fun h12 => ?_) (fun h12 => ?_)
                · skip
                  refine iinc_7 (q := 132) dX3_keptFor_129 rfl rfl rfl ?_
                  refine Ev.goto (q := 38) dX3_keptFor_132 (by decide) ?_
                  rw [w32_of (by omega) (by omega)]
                  first
                    | exact ih (s + 1) b ls M9 _ _ _ (by omega) hb (hls) (hF.tr y9) (by rw [hT, kep_keep hd (by omega)])
                    | exact ih (s + 1) s _ M9 _ _ _ (by omega) (by omega) (valV_w hI l s false) (hF.tr y9) (by rw [hT, kep_take hd (by omega)])
                · skip
                  refine Ev.lload (q := 124) dX3_keptFor_122 rfl rfl ?_
                  refine lstore_4 (q := 126) dX3_keptFor_124 rfl rfl rfl ?_
                  refine Ev.iload (q := 128) dX3_keptFor_126 rfl rfl ?_
                  refine istore_n_3 (q := 129) dX3_keptFor_128 rfl rfl rfl ?_
                  refine iinc_7 (q := 132) dX3_keptFor_129 rfl rfl rfl ?_
                  refine Ev.goto (q := 38) dX3_keptFor_132 (by decide) ?_
                  rw [w32_of (by omega) (by omega)]
                  first
                    | exact ih (s + 1) b ls M9 _ _ _ (by omega) hb (hls) (hF.tr y9) (by rw [hT, kep_keep hd (by omega)])
                    | exact ih (s + 1) s _ M9 _ _ _ (by omega) (by omega) (valV_w hI l s false) (hF.tr y9) (by rw [hT, kep_take hd (by omega)])
            · skip
              refine Ev.iconst (q := 103) dX3_keptFor_102 ki_1 rfl ?_
              refine Ev.goto (q := 107) dX3_keptFor_103 (by decide) ?_
              refine istore_10 (q := 109) dX3_keptFor_107 rfl rfl rfl ?_
              refine Ev.lload (q := 111) dX3_keptFor_109 rfl rfl ?_
              refine Ev.lload (q := 113) dX3_keptFor_111 rfl rfl ?_
              refine Ev.lcmp (q := 114) dX3_keptFor_113 rfl ?_
              refine Ev.if_lt (tgt := 122) (q := 117) dX3_keptFor_114 (by decide) rfl (fun h13 => ?_) (fun h13 => ?_)
              · skip
                refine Ev.lload (q := 124) dX3_keptFor_122 rfl rfl ?_
                refine lstore_4 (q := 126) dX3_keptFor_124 rfl rfl rfl ?_
                refine Ev.iload (q := 128) dX3_keptFor_126 rfl rfl ?_
                refine istore_n_3 (q := 129) dX3_keptFor_128 rfl rfl rfl ?_
                refine iinc_7 (q := 132) dX3_keptFor_129 rfl rfl rfl ?_
                refine Ev.goto (q := 38) dX3_keptFor_132 (by decide) ?_
                rw [w32_of (by omega) (by omega)]
                first
                  | exact ih (s + 1) b ls M9 _ _ _ (by omega) hb (hls) (hF.tr y9) (by rw [hT, kep_keep hd (by omega)])
                  | exact ih (s + 1) s _ M9 _ _ _ (by omega) (by omega) (valV_w hI l s false) (hF.tr y9) (by rw [hT, kep_take hd (by omega)])
              · skip
                refine Ev.iload (q := 119) dX3_keptFor_117 rfl rfl ?_
                refine Ev.if_eq (tgt := 129) (q := 122) dX3_keptFor_119 (by decide) rfl (fun h14 => ?_) (fun h14 => ?_)
                · skip
                  refine iinc_7 (q := 132) dX3_keptFor_129 rfl rfl rfl ?_
                  refine Ev.goto (q := 38) dX3_keptFor_132 (by decide) ?_
                  rw [w32_of (by omega) (by omega)]
                  first
                    | exact ih (s + 1) b ls M9 _ _ _ (by omega) hb (hls) (hF.tr y9) (by rw [hT, kep_keep hd (by omega)])
                    | exact ih (s + 1) s _ M9 _ _ _ (by omega) (by omega) (valV_w hI l s false) (hF.tr y9) (by rw [hT, kep_take hd (by omega)])
                · skip
                  refine Ev.lload (q := 124) dX3_keptFor_122 rfl rfl ?_
                  refine lstore_4 (q := 126) dX3_keptFor_124 rfl rfl rfl ?_
                  refine Ev.iload (q := 128) dX3_keptFor_126 rfl rfl ?_
                  refine istore_n_3 (q := 129) dX3_keptFor_128 rfl rfl rfl ?_
                  refine iinc_7 (q := 132) dX3_keptFor_129 rfl rfl rfl ?_
                  refine Ev.goto (q := 38) dX3_keptFor_132 (by decide) ?_
                  rw [w32_of (by omega) (by omega)]
                  first
                    | exact ih (s + 1) b ls M9 _ _ _ (by omega) hb (hls) (hF.tr y9) (by rw [hT, kep_keep hd (by omega)])
                    | exact ih (s + 1) s _ M9 _ _ _ (by omega) (by omega) (valV_w hI l s false) (hF.tr y9) (by rw [hT, kep_take hd (by omega)])
        · skip
          omega
      · skip
        have hnd : ¬ dif s w = 0 := by omega
        refine Ev.goto (q := 129) dX3_keptFor_55 (by decide) ?_
        refine iinc_7 (q := 132) dX3_keptFor_129 rfl rfl rfl ?_
        refine Ev.goto (q := 38) dX3_keptFor_132 (by decide) ?_
        rw [w32_of (by omega) (by omega)]
        exact ih (s + 1) b ls M _ _ _ (by omega) hb hls hF (by rw [hT, kep_skip hnd])
set_option maxRecDepth 4000 in
theorem p_X3_keptFor_false {Γ : Gm} {d : Nat} {m : Mem} (g : Row) (l : Nat) (hI : HI g) (hl : (l : Int) < g 2) (hH : HouR g m 33) (hN : NowR g m 44) : Ci Γ (d + 6) MX3_keptFor [rv 68, iv l, iv 0] m (fun r m' => r = (keptV g l false : Int) ∧ Fr sLi m m') := by
  refine Ci.of moX3_keptFor rfl rfl (fun hA hM => ?_)
  show Em Γ (d + 6) MX3_keptFor _ 0 [rv 68, iv l, iv 0, uv, uv, uv, uv, uv, uv, uv, uv] [] m
  have hF12 := hI.1
  have hP8 := hI.2.2.1
  have hL3 := hI.2.1
  have hlk := hI.litOk hl
  have e47 : m 47 l = (litV g l : Int) := by rw [(hN.1 l hl).2.2.1]; unfold litV; have := (hI.lift hl).2.1.1; omega
  refine Ev.iconst (q := 1) dX3_keptFor_0 ki_0 rfl ?_
  refine istore_n_3 (q := 2) dX3_keptFor_1 rfl rfl rfl ?_
  refine Ev.iload_n (q := 3) dX3_keptFor_2 rfl rfl ?_
  refine Ev.if_eq (tgt := 16) (q := 6) dX3_keptFor_3 (by decide) rfl (fun h1 => ?_) (fun h1 => ?_)
  · skip
    refine Ev.aload_n (q := 17) dX3_keptFor_16 rfl rfl ?_
    refine Ev.iload_n (q := 18) dX3_keptFor_17 rfl rfl ?_
    refine Ev.iconst (q := 19) dX3_keptFor_18 ki_0 rfl ?_
    refine cV2j (q := 22) (d' := d + 5) dX3_keptFor_19 mlX3_105 moX3_sumWith mvX3_sumWith k68 rfl rfl rfl (Nat.le_refl _) rfl rfl rfl (p_X3_sumWith g l 0 hI hl hH hN ⟨Nat.two_pow_pos _, Nat.zero_testBit _⟩) (fun r2 m2 e2 => ?_)
    obtain ⟨M9, rfl⟩ : ∃ M9, M9 = m2 := ⟨_, rfl⟩
    obtain ⟨y1, y8, y9⟩ := e2
    have y1' : r2 = valV g l 0 false := y1
    subst y1'
    refine lstore_4 (q := 24) dX3_keptFor_22 rfl rfl rfl ?_
    refine Ev.aload_n (q := 25) dX3_keptFor_24 rfl rfl ?_
    refine gR (q := 28) dX3_keptFor_25 gfX3_36 k68 r68_1 rfl rfl ?_
    refine gR (q := 31) dX3_keptFor_28 gfX3_109 k44 r44_2 rfl rfl ?_
    refine Ev.iload_n (q := 32) dX3_keptFor_31 rfl rfl ?_
    refine aI (q := 33) (k := l) dX3_keptFor_32 k47 (by first | rfl | omega | (simp (disch := omega) only [w32_of]; omega)) (by omega) rfl ?_
    rw [show M9 47 l = (litV g l : Int) by rw [y9 47 l rfl]; exact e47]
    refine istore_6 (q := 35) dX3_keptFor_33 rfl rfl rfl ?_
    refine Ev.iconst (q := 36) dX3_keptFor_35 ki_1 rfl ?_
    refine istore_7 (q := 38) dX3_keptFor_36 rfl rfl rfl ?_
    exact l_keptFor_false g l hI hl hH hN (litV g l) (keptV g l false) hlk (hlk.lt hI) (litV g l) 1 0 _ M9 _ _ _ (by omega) (by decide) (valV_w hI l 0 false) y9 (kep_start hI false)
  · skip
    omega
