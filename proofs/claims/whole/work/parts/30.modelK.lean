/-! ===== the reference: lights to turn; people who part; floors away; trays ===== -/
def chg (val : Nat → Int) (w own : Nat) (on : Bool) : Nat → Nat → Int → Int → Int
  | 0, _, b, _ => b
  | n + 1, f, b, ls => if w.testBit f ≠ on ∨ f = own then chg val w own on n (f + 1) b ls else
      if val (w ^^^ 2 ^ f) < ls then chg val w own on n (f + 1) f (val (w ^^^ 2 ^ f)) else chg val w own on n (f + 1) b ls
def chgV (g : Nat → Int) (l : Nat) (on : Bool) : Int := chg (sumV g l) (litV g l) (g (60 + l)).toNat on (g 1).toNat 0 (-1) (sumV g l (litV g l))
theorem litOk_xor {g : Nat → Int} {l w f : Nat} (h : litOk g l w) (hf : f < (g 1).toNat) (hne : f ≠ (g (60 + l)).toNat) : litOk g l (w ^^^ 2 ^ f) := by
  refine ⟨Nat.xor_lt_two_pow h.1 (two_lt hf), ?_⟩
  rw [Nat.testBit_xor, h.2, Nat.testBit_two_pow]
  simp [hne]
set_option maxRecDepth 4000 in
theorem l_changeBy_true {Γ : Gm} {d : Nat} {m0 : Mem} (l w own F : Nat) (hl3 : l < 3) (hI : HI (m0 212)) (hl : (l : Int) < m0 212 2) (hw : litOk (m0 212) l w) (h66 : m0 212 (66 + l) = w) (h60 : m0 212 (60 + l) = own) (hF : m0 212 1 = F) (hF12 : F ≤ 12) : ∀ (n f : Nat) (b ls : Int) (v7 v8 : Vl) (m : Mem), f + n = F → Fr sBe m0 m → m 212 = m0 212 → Em Γ (d + 6) MX12_changeBy (fun r m' => r = chg (sumV (m0 212) l) w own true n f b ls ∧ Fr sBe m0 m') 21 [rv 211, iv l, iv 1, jv ls, uv, iv b, iv f, v7, v8] [] m := by
  intro n
  induction n with
  | zero =>
    intro f b ls v7 v8 m hs hF0 g12
    refine Ev.iload (q := 23) dX12_changeBy_21 rfl rfl ?_
    refine Ev.aload_n (q := 24) dX12_changeBy_23 rfl rfl ?_
    refine gR (q := 27) dX12_changeBy_24 gfX12_13 k211 r211_1 rfl rfl ?_
    refine Ev.iconst (q := 28) dX12_changeBy_27 ki_1 rfl ?_
    refine aI (q := 29) (k := 1) dX12_changeBy_28 k212 (by rfl) (by decide) rfl ?_
    refine Ev.icmp_ge (tgt := 112) (q := 32) dX12_changeBy_29 (by decide) rfl (fun h1 => ?_) (fun h1 => ?_)
    · skip
      refine Ev.iload (q := 114) dX12_changeBy_112 rfl rfl ?_
      refine rI dX12_changeBy_114 rfl ?_
      exact ⟨rfl, hF0⟩
    · skip
      rw [g12] at h1; omega
  | succ n ih =>
    intro f b ls v7 v8 m hs hF0 g12
    refine Ev.iload (q := 23) dX12_changeBy_21 rfl rfl ?_
    refine Ev.aload_n (q := 24) dX12_changeBy_23 rfl rfl ?_
    refine gR (q := 27) dX12_changeBy_24 gfX12_13 k211 r211_1 rfl rfl ?_
    refine Ev.iconst (q := 28) dX12_changeBy_27 ki_1 rfl ?_
    refine aI (q := 29) (k := 1) dX12_changeBy_28 k212 (by rfl) (by decide) rfl ?_
    refine Ev.icmp_ge (tgt := 112) (q := 32) dX12_changeBy_29 (by decide) rfl (fun h1 => ?_) (fun h1 => ?_)
    · skip
      rw [g12] at h1; omega
    · skip
      refine Ev.aload_n (q := 33) dX12_changeBy_32 rfl rfl ?_
      refine gR (q := 36) dX12_changeBy_33 gfX12_13 k211 r211_1 rfl rfl ?_
      refine Ev.bipush (q := 38) dX12_changeBy_36 kb_66 rfl ?_
      refine Ev.iload_n (q := 39) dX12_changeBy_38 rfl rfl ?_
      refine Ev.iadd (q := 40) dX12_changeBy_39 rfl ?_
      refine aI (q := 41) (k := 66 + l) dX12_changeBy_40 k212 (by first | rfl | omega | (simp (disch := omega) only [w32_of]; omega)) (by omega) rfl ?_
      rw [g12, h66]
      refine Ev.i2l (q := 42) dX12_changeBy_41 rfl ?_
      refine Ev.iload (q := 44) dX12_changeBy_42 rfl rfl ?_
      refine cS2i (q := 47) (d' := d + 5) dX12_changeBy_44 mlX12_207 moX12_isIn msX12_isIn rfl rfl (Nat.le_refl _) rfl rfl rfl (p_X12_isIn w f (hw.lt hI) (by omega)) (fun r2 m2 e2 => ?_)
      obtain ⟨rfl, e2⟩ := e2
      obtain rfl := e2.symm
      refine Ev.iload_n (q := 48) dX12_changeBy_47 rfl rfl ?_
      refine Ev.icmp_ne (tgt := 106) (q := 51) dX12_changeBy_48 (by decide) rfl (fun h3 => ?_) (fun h3 => ?_)
      · skip
        have hb9 : w.testBit f ≠ true := by intro z; rw [z] at h3; simp at h3
        refine iinc_6 (q := 109) dX12_changeBy_106 rfl rfl rfl ?_
        refine Ev.goto (q := 21) dX12_changeBy_109 (by decide) ?_
        rw [w32_of (by omega) (by omega)]
        have hk := ih (f + 1) b ls v7 v8 _ (by omega) hF0 g12
        rw [show chg (sumV (m0 212) l) w own true (n + 1) f b ls = chg (sumV (m0 212) l) w own true n (f + 1) b ls by conv => lhs; unfold chg; rw [if_pos (Or.inl hb9)]]
        exact hk
      · skip
        have hb9 : w.testBit f = true := by cases hq : w.testBit f <;> simp_all
        refine Ev.iload (q := 53) dX12_changeBy_51 rfl rfl ?_
        refine Ev.aload_n (q := 54) dX12_changeBy_53 rfl rfl ?_
        refine gR (q := 57) dX12_changeBy_54 gfX12_13 k211 r211_1 rfl rfl ?_
        refine Ev.bipush (q := 59) dX12_changeBy_57 kb_60 rfl ?_
        refine Ev.iload_n (q := 60) dX12_changeBy_59 rfl rfl ?_
        refine Ev.iadd (q := 61) dX12_changeBy_60 rfl ?_
        refine aI (q := 62) (k := 60 + l) dX12_changeBy_61 k212 (by first | rfl | omega | (simp (disch := omega) only [w32_of]; omega)) (by omega) rfl ?_
        rw [g12, h60]
        refine Ev.icmp_ne (tgt := 68) (q := 65) dX12_changeBy_62 (by decide) rfl (fun h4 => ?_) (fun h4 => ?_)
        · skip
          have hne : ¬ f = own := by omega
          refine Ev.aload_n (q := 69) dX12_changeBy_68 rfl rfl ?_
          refine Ev.iload_n (q := 70) dX12_changeBy_69 rfl rfl ?_
          refine Ev.aload_n (q := 71) dX12_changeBy_70 rfl rfl ?_
          refine gR (q := 74) dX12_changeBy_71 gfX12_13 k211 r211_1 rfl rfl ?_
          refine Ev.bipush (q := 76) dX12_changeBy_74 kb_66 rfl ?_
          refine Ev.iload_n (q := 77) dX12_changeBy_76 rfl rfl ?_
          refine Ev.iadd (q := 78) dX12_changeBy_77 rfl ?_
          refine aI (q := 79) (k := 66 + l) dX12_changeBy_78 k212 (by first | rfl | omega | (simp (disch := omega) only [w32_of]; omega)) (by omega) rfl ?_
          refine Ev.iconst (q := 80) dX12_changeBy_79 ki_1 rfl ?_
          refine Ev.iload (q := 82) dX12_changeBy_80 rfl rfl ?_
          refine Ev.ishl (q := 83) dX12_changeBy_82 rfl ?_
          refine Ev.ixor (q := 84) dX12_changeBy_83 rfl ?_
          rw [g12, h66, ishl_1 f (by omega), ixor_n (k := 12) (hw.lt hI) (two_lt (by omega)) (by decide)]
          refine cV2j (q := 87) (d' := d + 5) dX12_changeBy_84 mlX12_364 moX12_sumBy mvX12_sumBy k211 rfl rfl rfl (Nat.le_refl _) rfl rfl rfl (p_X12_sumBy l (w ^^^ 2 ^ f) (by rw [g12]; exact hI) (by rw [g12]; exact hl) (by rw [g12]; exact litOk_xor hw (by omega) (by rw [h60]; simp only [Int.toNat_natCast]; exact hne))) (fun r5 m5 e5 => ?_)
          obtain ⟨rfl, hfr⟩ := e5
          rw [g12]
          have hF2 := hF0.tr hfr
          generalize m5 = M2 at *
          have g2 : M2 212 = m0 212 := by rw [hfr.row 212 (fun _ => rfl)]; exact g12
          refine lstore_7 (q := 89) dX12_changeBy_87 rfl rfl rfl ?_
          refine Ev.lload (q := 91) dX12_changeBy_89 rfl rfl ?_
          refine Ev.lload_n (q := 92) dX12_changeBy_91 rfl rfl ?_
          refine Em.ok (fun hL9 hS9 hM9 => ?_)
          have q1 := okV_j (okA_0 hS9)
          have q2 := okV_j (okA_1 hS9)
          refine Ev.lcmp (q := 93) dX12_changeBy_92 rfl ?_
          refine Ev.if_lt (tgt := 99) (q := 96) dX12_changeBy_93 (by decide) rfl (fun h6 => ?_) (fun h6 => ?_)
          · skip
            rw [lcmp_lt q2 q1] at h6
            refine Ev.iload (q := 101) dX12_changeBy_99 rfl rfl ?_
            refine istore_5 (q := 103) dX12_changeBy_101 rfl rfl rfl ?_
            refine Ev.lload (q := 105) dX12_changeBy_103 rfl rfl ?_
            refine lstore_n_3 (q := 106) dX12_changeBy_105 rfl rfl rfl ?_
            refine iinc_6 (q := 109) dX12_changeBy_106 rfl rfl rfl ?_
            refine Ev.goto (q := 21) dX12_changeBy_109 (by decide) ?_
            rw [w32_of (by omega) (by omega)]
            have hk := ih (f + 1) (f : Int) (sumV (m0 212) l (w ^^^ 2 ^ f)) (jv (sumV (m0 212) l (w ^^^ 2 ^ f))) uv _ (by omega) hF2 g2
            rw [show chg (sumV (m0 212) l) w own true (n + 1) f b ls = chg (sumV (m0 212) l) w own true n (f + 1) (f : Int) (sumV (m0 212) l (w ^^^ 2 ^ f)) by conv => lhs; unfold chg; rw [if_neg (fun z => z.elim (fun z => z hb9) hne), if_pos (by assumption)]]
            exact hk
          · skip
            rw [lcmp_lt q2 q1] at h6
            refine Ev.goto (q := 106) dX12_changeBy_96 (by decide) ?_
            refine iinc_6 (q := 109) dX12_changeBy_106 rfl rfl rfl ?_
            refine Ev.goto (q := 21) dX12_changeBy_109 (by decide) ?_
            rw [w32_of (by omega) (by omega)]
            have hk := ih (f + 1) b ls (jv (sumV (m0 212) l (w ^^^ 2 ^ f))) uv _ (by omega) hF2 g2
            rw [show chg (sumV (m0 212) l) w own true (n + 1) f b ls = chg (sumV (m0 212) l) w own true n (f + 1) b ls by conv => lhs; unfold chg; rw [if_neg (fun z => z.elim (fun z => z hb9) hne), if_neg (by assumption)]]
            exact hk
        · skip
          have heq : f = own := by omega
          refine Ev.goto (q := 106) dX12_changeBy_65 (by decide) ?_
          refine iinc_6 (q := 109) dX12_changeBy_106 rfl rfl rfl ?_
          refine Ev.goto (q := 21) dX12_changeBy_109 (by decide) ?_
          rw [w32_of (by omega) (by omega)]
          have hk := ih (f + 1) b ls v7 v8 _ (by omega) hF0 g12
          rw [show chg (sumV (m0 212) l) w own true (n + 1) f b ls = chg (sumV (m0 212) l) w own true n (f + 1) b ls by conv => lhs; unfold chg; rw [if_pos (Or.inr heq)]]
          exact hk
set_option maxRecDepth 4000 in
theorem p_X12_changeBy_true {Γ : Gm} {d : Nat} {m : Mem} (l : Nat) (hI : HI (m 212)) (hl : (l : Int) < m 212 2) : Ci Γ (d + 6) MX12_changeBy [rv 211, iv l, iv 1] m (fun r m' => r = chgV (m 212) l true ∧ Fr sBe m m') := by
  refine Ci.of moX12_changeBy rfl rfl (fun hA hM => ?_)
  show Em Γ (d + 6) MX12_changeBy _ 0 [rv 211, iv l, iv 1, uv, uv, uv, uv, uv, uv] [] m
  have hL3 := hI.2.1
  have hF9 := hI.1
  have hlift := hI.lift hl
  have hlok := hI.litOk hl
  have e66 : m 212 (66 + l) = ((litV (m 212) l : Nat) : Int) := by unfold litV; have := hlift.2.1.1; omega
  obtain ⟨own, e60⟩ : ∃ own : Nat, m 212 (60 + l) = own := ⟨(m 212 (60 + l)).toNat, by omega⟩
  obtain ⟨F, eF⟩ : ∃ F : Nat, m 212 1 = F := ⟨(m 212 1).toNat, by omega⟩
  refine Ev.aload_n (q := 1) dX12_changeBy_0 rfl rfl ?_
  refine Ev.iload_n (q := 2) dX12_changeBy_1 rfl rfl ?_
  refine Ev.aload_n (q := 3) dX12_changeBy_2 rfl rfl ?_
  refine gR (q := 6) dX12_changeBy_3 gfX12_13 k211 r211_1 rfl rfl ?_
  refine Ev.bipush (q := 8) dX12_changeBy_6 kb_66 rfl ?_
  refine Ev.iload_n (q := 9) dX12_changeBy_8 rfl rfl ?_
  refine Ev.iadd (q := 10) dX12_changeBy_9 rfl ?_
  refine aI (q := 11) (k := 66 + l) dX12_changeBy_10 k212 (by first | rfl | omega | (simp (disch := omega) only [w32_of]; omega)) (by omega) rfl ?_
  rw [e66]
  refine cV2j (q := 14) (d' := d + 5) dX12_changeBy_11 mlX12_364 moX12_sumBy mvX12_sumBy k211 rfl rfl rfl (Nat.le_refl _) rfl rfl rfl (p_X12_sumBy l (litV (m 212) l) hI hl hlok) (fun r1 m1 e1 => ?_)
  obtain ⟨rfl, hfr⟩ := e1
  generalize m1 = M2 at *
  have g2 : M2 212 = m 212 := hfr.row 212 (fun _ => rfl)
  refine lstore_n_3 (q := 15) dX12_changeBy_14 rfl rfl rfl ?_
  refine Ev.iconst (q := 16) dX12_changeBy_15 ki_m1 rfl ?_
  refine istore_5 (q := 18) dX12_changeBy_16 rfl rfl rfl ?_
  refine Ev.iconst (q := 19) dX12_changeBy_18 ki_0 rfl ?_
  refine istore_6 (q := 21) dX12_changeBy_19 rfl rfl rfl ?_
  unfold chgV
  rw [e60, eF]
  simp only [Int.toNat_natCast]
  exact l_changeBy_true l (litV (m 212) l) own F (by omega) hI hl hlok e66 e60 eF (by omega) F 0 (-1) _ uv uv M2 (by omega) hfr g2
set_option maxRecDepth 4000 in
theorem l_changeBy_false {Γ : Gm} {d : Nat} {m0 : Mem} (l w own F : Nat) (hl3 : l < 3) (hI : HI (m0 212)) (hl : (l : Int) < m0 212 2) (hw : litOk (m0 212) l w) (h66 : m0 212 (66 + l) = w) (h60 : m0 212 (60 + l) = own) (hF : m0 212 1 = F) (hF12 : F ≤ 12) : ∀ (n f : Nat) (b ls : Int) (v7 v8 : Vl) (m : Mem), f + n = F → Fr sBe m0 m → m 212 = m0 212 → Em Γ (d + 6) MX12_changeBy (fun r m' => r = chg (sumV (m0 212) l) w own false n f b ls ∧ Fr sBe m0 m') 21 [rv 211, iv l, iv 0, jv ls, uv, iv b, iv f, v7, v8] [] m := by
  intro n
  induction n with
  | zero =>
    intro f b ls v7 v8 m hs hF0 g12
    refine Ev.iload (q := 23) dX12_changeBy_21 rfl rfl ?_
    refine Ev.aload_n (q := 24) dX12_changeBy_23 rfl rfl ?_
    refine gR (q := 27) dX12_changeBy_24 gfX12_13 k211 r211_1 rfl rfl ?_
    refine Ev.iconst (q := 28) dX12_changeBy_27 ki_1 rfl ?_
    refine aI (q := 29) (k := 1) dX12_changeBy_28 k212 (by rfl) (by decide) rfl ?_
    refine Ev.icmp_ge (tgt := 112) (q := 32) dX12_changeBy_29 (by decide) rfl (fun h1 => ?_) (fun h1 => ?_)
    · skip
      refine Ev.iload (q := 114) dX12_changeBy_112 rfl rfl ?_
      refine rI dX12_changeBy_114 rfl ?_
      exact ⟨rfl, hF0⟩
    · skip
      rw [g12] at h1; omega
  | succ n ih =>
    intro f b ls v7 v8 m hs hF0 g12
    refine Ev.iload (q := 23) dX12_changeBy_21 rfl rfl ?_
    refine Ev.aload_n (q := 24) dX12_changeBy_23 rfl rfl ?_
    refine gR (q := 27) dX12_changeBy_24 gfX12_13 k211 r211_1 rfl rfl ?_
    refine Ev.iconst (q := 28) dX12_changeBy_27 ki_1 rfl ?_
    refine aI (q := 29) (k := 1) dX12_changeBy_28 k212 (by rfl) (by decide) rfl ?_
    refine Ev.icmp_ge (tgt := 112) (q := 32) dX12_changeBy_29 (by decide) rfl (fun h1 => ?_) (fun h1 => ?_)
    · skip
      rw [g12] at h1; omega
    · skip
      refine Ev.aload_n (q := 33) dX12_changeBy_32 rfl rfl ?_
      refine gR (q := 36) dX12_changeBy_33 gfX12_13 k211 r211_1 rfl rfl ?_
      refine Ev.bipush (q := 38) dX12_changeBy_36 kb_66 rfl ?_
      refine Ev.iload_n (q := 39) dX12_changeBy_38 rfl rfl ?_
      refine Ev.iadd (q := 40) dX12_changeBy_39 rfl ?_
      refine aI (q := 41) (k := 66 + l) dX12_changeBy_40 k212 (by first | rfl | omega | (simp (disch := omega) only [w32_of]; omega)) (by omega) rfl ?_
      rw [g12, h66]
      refine Ev.i2l (q := 42) dX12_changeBy_41 rfl ?_
      refine Ev.iload (q := 44) dX12_changeBy_42 rfl rfl ?_
      refine cS2i (q := 47) (d' := d + 5) dX12_changeBy_44 mlX12_207 moX12_isIn msX12_isIn rfl rfl (Nat.le_refl _) rfl rfl rfl (p_X12_isIn w f (hw.lt hI) (by omega)) (fun r2 m2 e2 => ?_)
      obtain ⟨rfl, e2⟩ := e2
      obtain rfl := e2.symm
      refine Ev.iload_n (q := 48) dX12_changeBy_47 rfl rfl ?_
      refine Ev.icmp_ne (tgt := 106) (q := 51) dX12_changeBy_48 (by decide) rfl (fun h3 => ?_) (fun h3 => ?_)
      · skip
        have hb9 : w.testBit f ≠ false := by intro z; rw [z] at h3; simp at h3
        refine iinc_6 (q := 109) dX12_changeBy_106 rfl rfl rfl ?_
        refine Ev.goto (q := 21) dX12_changeBy_109 (by decide) ?_
        rw [w32_of (by omega) (by omega)]
        have hk := ih (f + 1) b ls v7 v8 _ (by omega) hF0 g12
        rw [show chg (sumV (m0 212) l) w own false (n + 1) f b ls = chg (sumV (m0 212) l) w own false n (f + 1) b ls by conv => lhs; unfold chg; rw [if_pos (Or.inl hb9)]]
        exact hk
      · skip
        have hb9 : w.testBit f = false := by cases hq : w.testBit f <;> simp_all
        refine Ev.iload (q := 53) dX12_changeBy_51 rfl rfl ?_
        refine Ev.aload_n (q := 54) dX12_changeBy_53 rfl rfl ?_
        refine gR (q := 57) dX12_changeBy_54 gfX12_13 k211 r211_1 rfl rfl ?_
        refine Ev.bipush (q := 59) dX12_changeBy_57 kb_60 rfl ?_
        refine Ev.iload_n (q := 60) dX12_changeBy_59 rfl rfl ?_
        refine Ev.iadd (q := 61) dX12_changeBy_60 rfl ?_
        refine aI (q := 62) (k := 60 + l) dX12_changeBy_61 k212 (by first | rfl | omega | (simp (disch := omega) only [w32_of]; omega)) (by omega) rfl ?_
        rw [g12, h60]
        refine Ev.icmp_ne (tgt := 68) (q := 65) dX12_changeBy_62 (by decide) rfl (fun h4 => ?_) (fun h4 => ?_)
        · skip
          have hne : ¬ f = own := by omega
          refine Ev.aload_n (q := 69) dX12_changeBy_68 rfl rfl ?_
          refine Ev.iload_n (q := 70) dX12_changeBy_69 rfl rfl ?_
          refine Ev.aload_n (q := 71) dX12_changeBy_70 rfl rfl ?_
          refine gR (q := 74) dX12_changeBy_71 gfX12_13 k211 r211_1 rfl rfl ?_
          refine Ev.bipush (q := 76) dX12_changeBy_74 kb_66 rfl ?_
          refine Ev.iload_n (q := 77) dX12_changeBy_76 rfl rfl ?_
          refine Ev.iadd (q := 78) dX12_changeBy_77 rfl ?_
          refine aI (q := 79) (k := 66 + l) dX12_changeBy_78 k212 (by first | rfl | omega | (simp (disch := omega) only [w32_of]; omega)) (by omega) rfl ?_
          refine Ev.iconst (q := 80) dX12_changeBy_79 ki_1 rfl ?_
          refine Ev.iload (q := 82) dX12_changeBy_80 rfl rfl ?_
          refine Ev.ishl (q := 83) dX12_changeBy_82 rfl ?_
          refine Ev.ixor (q := 84) dX12_changeBy_83 rfl ?_
          rw [g12, h66, ishl_1 f (by omega), ixor_n (k := 12) (hw.lt hI) (two_lt (by omega)) (by decide)]
          refine cV2j (q := 87) (d' := d + 5) dX12_changeBy_84 mlX12_364 moX12_sumBy mvX12_sumBy k211 rfl rfl rfl (Nat.le_refl _) rfl rfl rfl (p_X12_sumBy l (w ^^^ 2 ^ f) (by rw [g12]; exact hI) (by rw [g12]; exact hl) (by rw [g12]; exact litOk_xor hw (by omega) (by rw [h60]; simp only [Int.toNat_natCast]; exact hne))) (fun r5 m5 e5 => ?_)
          obtain ⟨rfl, hfr⟩ := e5
          rw [g12]
          have hF2 := hF0.tr hfr
          generalize m5 = M2 at *
          have g2 : M2 212 = m0 212 := by rw [hfr.row 212 (fun _ => rfl)]; exact g12
          refine lstore_7 (q := 89) dX12_changeBy_87 rfl rfl rfl ?_
          refine Ev.lload (q := 91) dX12_changeBy_89 rfl rfl ?_
          refine Ev.lload_n (q := 92) dX12_changeBy_91 rfl rfl ?_
          refine Em.ok (fun hL9 hS9 hM9 => ?_)
          have q1 := okV_j (okA_0 hS9)
          have q2 := okV_j (okA_1 hS9)
          refine Ev.lcmp (q := 93) dX12_changeBy_92 rfl ?_
          refine Ev.if_lt (tgt := 99) (q := 96) dX12_changeBy_93 (by decide) rfl (fun h6 => ?_) (fun h6 => ?_)
          · skip
            rw [lcmp_lt q2 q1] at h6
            refine Ev.iload (q := 101) dX12_changeBy_99 rfl rfl ?_
            refine istore_5 (q := 103) dX12_changeBy_101 rfl rfl rfl ?_
            refine Ev.lload (q := 105) dX12_changeBy_103 rfl rfl ?_
            refine lstore_n_3 (q := 106) dX12_changeBy_105 rfl rfl rfl ?_
            refine iinc_6 (q := 109) dX12_changeBy_106 rfl rfl rfl ?_
            refine Ev.goto (q := 21) dX12_changeBy_109 (by decide) ?_
            rw [w32_of (by omega) (by omega)]
            have hk := ih (f + 1) (f : Int) (sumV (m0 212) l (w ^^^ 2 ^ f)) (jv (sumV (m0 212) l (w ^^^ 2 ^ f))) uv _ (by omega) hF2 g2
            rw [show chg (sumV (m0 212) l) w own false (n + 1) f b ls = chg (sumV (m0 212) l) w own false n (f + 1) (f : Int) (sumV (m0 212) l (w ^^^ 2 ^ f)) by conv => lhs; unfold chg; rw [if_neg (fun z => z.elim (fun z => z hb9) hne), if_pos (by assumption)]]
            exact hk
          · skip
            rw [lcmp_lt q2 q1] at h6
            refine Ev.goto (q := 106) dX12_changeBy_96 (by decide) ?_
            refine iinc_6 (q := 109) dX12_changeBy_106 rfl rfl rfl ?_
            refine Ev.goto (q := 21) dX12_changeBy_109 (by decide) ?_
            rw [w32_of (by omega) (by omega)]
            have hk := ih (f + 1) b ls (jv (sumV (m0 212) l (w ^^^ 2 ^ f))) uv _ (by omega) hF2 g2
            rw [show chg (sumV (m0 212) l) w own false (n + 1) f b ls = chg (sumV (m0 212) l) w own false n (f + 1) b ls by conv => lhs; unfold chg; rw [if_neg (fun z => z.elim (fun z => z hb9) hne), if_neg (by assumption)]]
            exact hk
        · skip
          have heq : f = own := by omega
          refine Ev.goto (q := 106) dX12_changeBy_65 (by decide) ?_
          refine iinc_6 (q := 109) dX12_changeBy_106 rfl rfl rfl ?_
          refine Ev.goto (q := 21) dX12_changeBy_109 (by decide) ?_
          rw [w32_of (by omega) (by omega)]
          have hk := ih (f + 1) b ls v7 v8 _ (by omega) hF0 g12
          rw [show chg (sumV (m0 212) l) w own false (n + 1) f b ls = chg (sumV (m0 212) l) w own false n (f + 1) b ls by conv => lhs; unfold chg; rw [if_pos (Or.inr heq)]]
          exact hk
set_option maxRecDepth 4000 in
theorem p_X12_changeBy_false {Γ : Gm} {d : Nat} {m : Mem} (l : Nat) (hI : HI (m 212)) (hl : (l : Int) < m 212 2) : Ci Γ (d + 6) MX12_changeBy [rv 211, iv l, iv 0] m (fun r m' => r = chgV (m 212) l false ∧ Fr sBe m m') := by
  refine Ci.of moX12_changeBy rfl rfl (fun hA hM => ?_)
  show Em Γ (d + 6) MX12_changeBy _ 0 [rv 211, iv l, iv 0, uv, uv, uv, uv, uv, uv] [] m
  have hL3 := hI.2.1
  have hF9 := hI.1
  have hlift := hI.lift hl
  have hlok := hI.litOk hl
  have e66 : m 212 (66 + l) = ((litV (m 212) l : Nat) : Int) := by unfold litV; have := hlift.2.1.1; omega
  obtain ⟨own, e60⟩ : ∃ own : Nat, m 212 (60 + l) = own := ⟨(m 212 (60 + l)).toNat, by omega⟩
  obtain ⟨F, eF⟩ : ∃ F : Nat, m 212 1 = F := ⟨(m 212 1).toNat, by omega⟩
  refine Ev.aload_n (q := 1) dX12_changeBy_0 rfl rfl ?_
  refine Ev.iload_n (q := 2) dX12_changeBy_1 rfl rfl ?_
  refine Ev.aload_n (q := 3) dX12_changeBy_2 rfl rfl ?_
  refine gR (q := 6) dX12_changeBy_3 gfX12_13 k211 r211_1 rfl rfl ?_
  refine Ev.bipush (q := 8) dX12_changeBy_6 kb_66 rfl ?_
  refine Ev.iload_n (q := 9) dX12_changeBy_8 rfl rfl ?_
  refine Ev.iadd (q := 10) dX12_changeBy_9 rfl ?_
  refine aI (q := 11) (k := 66 + l) dX12_changeBy_10 k212 (by first | rfl | omega | (simp (disch := omega) only [w32_of]; omega)) (by omega) rfl ?_
  rw [e66]
  refine cV2j (q := 14) (d' := d + 5) dX12_changeBy_11 mlX12_364 moX12_sumBy mvX12_sumBy k211 rfl rfl rfl (Nat.le_refl _) rfl rfl rfl (p_X12_sumBy l (litV (m 212) l) hI hl hlok) (fun r1 m1 e1 => ?_)
  obtain ⟨rfl, hfr⟩ := e1
  generalize m1 = M2 at *
  have g2 : M2 212 = m 212 := hfr.row 212 (fun _ => rfl)
  refine lstore_n_3 (q := 15) dX12_changeBy_14 rfl rfl rfl ?_
  refine Ev.iconst (q := 16) dX12_changeBy_15 ki_m1 rfl ?_
  refine istore_5 (q := 18) dX12_changeBy_16 rfl rfl rfl ?_
  refine Ev.iconst (q := 19) dX12_changeBy_18 ki_0 rfl ?_
  refine istore_6 (q := 21) dX12_changeBy_19 rfl rfl rfl ?_
  unfold chgV
  rw [e60, eF]
  simp only [Int.toNat_natCast]
  exact l_changeBy_false l (litV (m 212) l) own F (by omega) hI hl hlok e66 e60 eF (by omega) F 0 (-1) _ uv uv M2 (by omega) hfr g2
def parted (g : Nat → Int) (l k p : Nat) : Bool := decide (g (72 + p) = g (60 + l) ∧ ¬ g (28 + p) = g (60 + l) ∧ (g (88 + p) = -1 ∨ g (88 + p) = l ∨ g (88 + p) = k))
set_option maxRecDepth 4000 in
theorem p_X12_isParted {Γ : Gm} {d : Nat} {m : Mem} (p l k : Nat) (hp : p < 8) (hl : l < 3) (hk : k < 3) : Ci Γ (d + 0) MX12_isParted [rv 211, iv p, iv l, iv k] m (fun r m' => r = (if parted (m 212) l k p = true then 1 else 0) ∧ m' = m) := by
  refine Ci.of moX12_isParted rfl rfl (fun hA hM => ?_)
  show Em Γ (d + 0) MX12_isParted _ 0 [rv 211, iv p, iv l, iv k] [] m
  refine Ev.aload_n (q := 1) dX12_isParted_0 rfl rfl ?_
  refine gR (q := 4) dX12_isParted_1 gfX12_13 k211 r211_1 rfl rfl ?_
  refine Ev.bipush (q := 6) dX12_isParted_4 kb_72 rfl ?_
  refine Ev.iload_n (q := 7) dX12_isParted_6 rfl rfl ?_
  refine Ev.iadd (q := 8) dX12_isParted_7 rfl ?_
  refine aI (q := 9) (k := 72 + p) dX12_isParted_8 k212 (by first | rfl | omega | (simp (disch := omega) only [w32_of]; omega)) (by omega) rfl ?_
  refine Ev.aload_n (q := 10) dX12_isParted_9 rfl rfl ?_
  refine gR (q := 13) dX12_isParted_10 gfX12_13 k211 r211_1 rfl rfl ?_
  refine Ev.bipush (q := 15) dX12_isParted_13 kb_60 rfl ?_
  refine Ev.iload_n (q := 16) dX12_isParted_15 rfl rfl ?_
  refine Ev.iadd (q := 17) dX12_isParted_16 rfl ?_
  refine aI (q := 18) (k := 60 + l) dX12_isParted_17 k212 (by first | rfl | omega | (simp (disch := omega) only [w32_of]; omega)) (by omega) rfl ?_
  refine Ev.icmp_ne (tgt := 85) (q := 21) dX12_isParted_18 (by decide) rfl (fun h1 => ?_) (fun h1 => ?_)
  · skip
    refine Ev.iconst (q := 86) dX12_isParted_85 ki_0 rfl ?_
    refine rZ dX12_isParted_86 rfl (by decide) ?_
    refine ⟨?_, rfl⟩
    unfold parted
    simp only [decide_eq_true_eq]
    split <;> first | rfl | omega
  · skip
    refine Ev.aload_n (q := 22) dX12_isParted_21 rfl rfl ?_
    refine gR (q := 25) dX12_isParted_22 gfX12_13 k211 r211_1 rfl rfl ?_
    refine Ev.bipush (q := 27) dX12_isParted_25 kb_28 rfl ?_
    refine Ev.iload_n (q := 28) dX12_isParted_27 rfl rfl ?_
    refine Ev.iadd (q := 29) dX12_isParted_28 rfl ?_
    refine aI (q := 30) (k := 28 + p) dX12_isParted_29 k212 (by first | rfl | omega | (simp (disch := omega) only [w32_of]; omega)) (by omega) rfl ?_
    refine Ev.aload_n (q := 31) dX12_isParted_30 rfl rfl ?_
    refine gR (q := 34) dX12_isParted_31 gfX12_13 k211 r211_1 rfl rfl ?_
    refine Ev.bipush (q := 36) dX12_isParted_34 kb_60 rfl ?_
    refine Ev.iload_n (q := 37) dX12_isParted_36 rfl rfl ?_
    refine Ev.iadd (q := 38) dX12_isParted_37 rfl ?_
    refine aI (q := 39) (k := 60 + l) dX12_isParted_38 k212 (by first | rfl | omega | (simp (disch := omega) only [w32_of]; omega)) (by omega) rfl ?_
    refine Ev.icmp_eq (tgt := 85) (q := 42) dX12_isParted_39 (by decide) rfl (fun h2 => ?_) (fun h2 => ?_)
    · skip
      refine Ev.iconst (q := 86) dX12_isParted_85 ki_0 rfl ?_
      refine rZ dX12_isParted_86 rfl (by decide) ?_
      refine ⟨?_, rfl⟩
      unfold parted
      simp only [decide_eq_true_eq]
      split <;> first | rfl | omega
    · skip
      refine Ev.aload_n (q := 43) dX12_isParted_42 rfl rfl ?_
      refine gR (q := 46) dX12_isParted_43 gfX12_13 k211 r211_1 rfl rfl ?_
      refine Ev.bipush (q := 48) dX12_isParted_46 kb_88 rfl ?_
      refine Ev.iload_n (q := 49) dX12_isParted_48 rfl rfl ?_
      refine Ev.iadd (q := 50) dX12_isParted_49 rfl ?_
      refine aI (q := 51) (k := 88 + p) dX12_isParted_50 k212 (by first | rfl | omega | (simp (disch := omega) only [w32_of]; omega)) (by omega) rfl ?_
      refine Ev.iconst (q := 52) dX12_isParted_51 ki_m1 rfl ?_
      refine Ev.icmp_eq (tgt := 81) (q := 55) dX12_isParted_52 (by decide) rfl (fun h3 => ?_) (fun h3 => ?_)
      · skip
        refine Ev.iconst (q := 82) dX12_isParted_81 ki_1 rfl ?_
        refine Ev.goto (q := 86) dX12_isParted_82 (by decide) ?_
        refine rZ dX12_isParted_86 rfl (by decide) ?_
        refine ⟨?_, rfl⟩
        unfold parted
        simp only [decide_eq_true_eq]
        split <;> first | rfl | omega
      · skip
        refine Ev.aload_n (q := 56) dX12_isParted_55 rfl rfl ?_
        refine gR (q := 59) dX12_isParted_56 gfX12_13 k211 r211_1 rfl rfl ?_
        refine Ev.bipush (q := 61) dX12_isParted_59 kb_88 rfl ?_
        refine Ev.iload_n (q := 62) dX12_isParted_61 rfl rfl ?_
        refine Ev.iadd (q := 63) dX12_isParted_62 rfl ?_
        refine aI (q := 64) (k := 88 + p) dX12_isParted_63 k212 (by first | rfl | omega | (simp (disch := omega) only [w32_of]; omega)) (by omega) rfl ?_
        refine Ev.iload_n (q := 65) dX12_isParted_64 rfl rfl ?_
        refine Ev.icmp_eq (tgt := 81) (q := 68) dX12_isParted_65 (by decide) rfl (fun h4 => ?_) (fun h4 => ?_)
        · skip
          refine Ev.iconst (q := 82) dX12_isParted_81 ki_1 rfl ?_
          refine Ev.goto (q := 86) dX12_isParted_82 (by decide) ?_
          refine rZ dX12_isParted_86 rfl (by decide) ?_
          refine ⟨?_, rfl⟩
          unfold parted
          simp only [decide_eq_true_eq]
          split <;> first | rfl | omega
        · skip
          refine Ev.aload_n (q := 69) dX12_isParted_68 rfl rfl ?_
          refine gR (q := 72) dX12_isParted_69 gfX12_13 k211 r211_1 rfl rfl ?_
          refine Ev.bipush (q := 74) dX12_isParted_72 kb_88 rfl ?_
          refine Ev.iload_n (q := 75) dX12_isParted_74 rfl rfl ?_
          refine Ev.iadd (q := 76) dX12_isParted_75 rfl ?_
          refine aI (q := 77) (k := 88 + p) dX12_isParted_76 k212 (by first | rfl | omega | (simp (disch := omega) only [w32_of]; omega)) (by omega) rfl ?_
          refine Ev.iload_n (q := 78) dX12_isParted_77 rfl rfl ?_
          refine Ev.icmp_ne (tgt := 85) (q := 81) dX12_isParted_78 (by decide) rfl (fun h5 => ?_) (fun h5 => ?_)
          · skip
            refine Ev.iconst (q := 86) dX12_isParted_85 ki_0 rfl ?_
            refine rZ dX12_isParted_86 rfl (by decide) ?_
            refine ⟨?_, rfl⟩
            unfold parted
            simp only [decide_eq_true_eq]
            split <;> first | rfl | omega
          · skip
            refine Ev.iconst (q := 82) dX12_isParted_81 ki_1 rfl ?_
            refine Ev.goto (q := 86) dX12_isParted_82 (by decide) ?_
            refine rZ dX12_isParted_86 rfl (by decide) ?_
            refine ⟨?_, rfl⟩
            unfold parted
            simp only [decide_eq_true_eq]
            split <;> first | rfl | omega
def awy (g : Nat → Int) (f : Nat) : Nat → Int
  | 0 => 0
  | n + 1 => awy g f n + (dst f n : Int) * g (10 + n)
def awyV (g : Nat → Int) (f : Nat) : Int := awy g f (g 1).toNat
theorem dst_le {a b : Nat} (ha : a < 12) (hb : b < 12) : dst a b ≤ 11 := by unfold dst; split <;> omega
theorem mul_99 {a : Nat} {b : Int} (ha : a ≤ 11) (hb : 0 ≤ b ∧ b ≤ 99) : 0 ≤ (a : Int) * b ∧ (a : Int) * b ≤ 1089 := by
  rcases (show a = 0 ∨ a = 1 ∨ a = 2 ∨ a = 3 ∨ a = 4 ∨ a = 5 ∨ a = 6 ∨ a = 7 ∨ a = 8 ∨ a = 9 ∨ a = 10 ∨ a = 11 by omega) with h | h | h | h | h | h | h | h | h | h | h | h <;> subst h <;> simp <;> omega
theorem awy_bd {g : Nat → Int} {f : Nat} (hf : f < 12) (h : ∀ k : Nat, k < 12 → 0 ≤ g (10 + k) ∧ g (10 + k) ≤ 99) : ∀ n, n ≤ 12 → 0 ≤ awy g f n ∧ awy g f n ≤ 1089 * n := by
  intro n
  induction n with
  | zero => intro _; exact ⟨Int.le_refl _, Int.le_refl _⟩
  | succ n ih =>
    intro hn
    have h1 := ih (by omega)
    have h2 := mul_99 (dst_le hf (show n < 12 by omega)) (h n (by omega))
    unfold awy
    omega
set_option maxRecDepth 4000 in
theorem l_away {Γ : Gm} {d : Nat} {m : Mem} (f F : Nat) (hf : f < 12) (hF : m 212 1 = F) (hF12 : F ≤ 12) (hc : ∀ k : Nat, k < 12 → 0 ≤ m 212 (10 + k) ∧ m 212 (10 + k) ≤ 99) : ∀ (n k : Nat), k + n = F → Em Γ (d + 1) MX12_awayFrom (fun r m' => r = awy (m 212) f F ∧ m' = m) 4 [rv 211, iv f, iv (awy (m 212) f k), iv k] [] m := by
  intro n
  induction n with
  | zero =>
    intro k hk
    obtain rfl : F = k := by omega
    refine Ev.iload_n (q := 5) dX12_awayFrom_4 rfl rfl ?_
    refine Ev.aload_n (q := 6) dX12_awayFrom_5 rfl rfl ?_
    refine gR (q := 9) dX12_awayFrom_6 gfX12_13 k211 r211_1 rfl rfl ?_
    refine Ev.iconst (q := 10) dX12_awayFrom_9 ki_1 rfl ?_
    refine aI (q := 11) (k := 1) dX12_awayFrom_10 k212 (by rfl) (by decide) rfl ?_
    refine Ev.icmp_ge (tgt := 38) (q := 14) dX12_awayFrom_11 (by decide) rfl (fun h1 => ?_) (fun h1 => ?_)
    · skip
      refine Ev.iload_n (q := 39) dX12_awayFrom_38 rfl rfl ?_
      refine rI dX12_awayFrom_39 rfl ?_
      exact ⟨rfl, rfl⟩
    · skip
      omega
  | succ n ih =>
    intro k hk
    refine Ev.iload_n (q := 5) dX12_awayFrom_4 rfl rfl ?_
    refine Ev.aload_n (q := 6) dX12_awayFrom_5 rfl rfl ?_
    refine gR (q := 9) dX12_awayFrom_6 gfX12_13 k211 r211_1 rfl rfl ?_
    refine Ev.iconst (q := 10) dX12_awayFrom_9 ki_1 rfl ?_
    refine aI (q := 11) (k := 1) dX12_awayFrom_10 k212 (by rfl) (by decide) rfl ?_
    refine Ev.icmp_ge (tgt := 38) (q := 14) dX12_awayFrom_11 (by decide) rfl (fun h1 => ?_) (fun h1 => ?_)
    · skip
      omega
    · skip
      refine Ev.iload_n (q := 15) dX12_awayFrom_14 rfl rfl ?_
      refine Ev.iload_n (q := 16) dX12_awayFrom_15 rfl rfl ?_
      refine Ev.iload_n (q := 17) dX12_awayFrom_16 rfl rfl ?_
      refine cS2i (q := 20) (d' := d + 0) dX12_awayFrom_17 mlX12_218 moX12_far msX12_far rfl rfl (Nat.le_refl _) rfl rfl rfl (p_X12_far _ _) (fun r2 m2 e2 => ?_)
      obtain ⟨rfl, e2⟩ := e2
      obtain rfl := e2.symm
      rw [far_dst f k (by omega) (by omega)]
      refine Ev.aload_n (q := 21) dX12_awayFrom_20 rfl rfl ?_
      refine gR (q := 24) dX12_awayFrom_21 gfX12_13 k211 r211_1 rfl rfl ?_
      refine Ev.bipush (q := 26) dX12_awayFrom_24 kb_10 rfl ?_
      refine Ev.iload_n (q := 27) dX12_awayFrom_26 rfl rfl ?_
      refine Ev.iadd (q := 28) dX12_awayFrom_27 rfl ?_
      refine aI (q := 29) (k := 10 + k) dX12_awayFrom_28 k212 (by first | rfl | omega | (simp (disch := omega) only [w32_of]; omega)) (by omega) rfl ?_
      refine Ev.imul (q := 30) dX12_awayFrom_29 rfl ?_
      refine Ev.iadd (q := 31) dX12_awayFrom_30 rfl ?_
      refine istore_n_2 (q := 32) dX12_awayFrom_31 rfl rfl rfl ?_
      refine iinc_3 (q := 35) dX12_awayFrom_32 rfl rfl rfl ?_
      refine Ev.goto (q := 4) dX12_awayFrom_35 (by decide) ?_
      have h9 := awy_bd (g := m 212) hf hc k (by omega)
      have h8 := mul_99 (dst_le hf (show k < 12 by omega)) (hc k (by omega))
      rw [w32_of (z := (dst f k : Int) * m 212 (10 + k)) (by omega) (by omega), w32_of (by omega) (by omega), w32_of (by omega) (by omega)]
      exact ih (k + 1) (by omega)
set_option maxRecDepth 4000 in
theorem p_X12_awayFrom {Γ : Gm} {d : Nat} {m : Mem} (f : Nat) (hf : f < 12) (hI : HI (m 212)) : Ci Γ (d + 1) MX12_awayFrom [rv 211, iv f] m (fun r m' => r = awyV (m 212) f ∧ m' = m) := by
  refine Ci.of moX12_awayFrom rfl rfl (fun hA hM => ?_)
  show Em Γ (d + 1) MX12_awayFrom _ 0 [rv 211, iv f, uv, uv] [] m
  refine Ev.iconst (q := 1) dX12_awayFrom_0 ki_0 rfl ?_
  refine istore_n_2 (q := 2) dX12_awayFrom_1 rfl rfl rfl ?_
  refine Ev.iconst (q := 3) dX12_awayFrom_2 ki_0 rfl ?_
  refine istore_n_3 (q := 4) dX12_awayFrom_3 rfl rfl rfl ?_
  have hF := hI.1
  have hk := l_away (Γ := Γ) (d := d) f (m 212 1).toNat hf (by omega) (by omega) hI.2.2.2.2.2.2.2 (m 212 1).toNat 0 (by omega)
  exact hk
set_option maxRecDepth 4000 in
theorem p_X12_noTray {Γ : Gm} {d : Nat} {m : Mem} (t : Int) : Ci Γ (d + 1) MX12_noTray [rv 211, iv t] m (fun r m' => r = (if t < 0 ∨ 3 < t then -2 else if m 220 t.toNat = -1 then -6 else 0) ∧ m' = m) := by
  refine Ci.of moX12_noTray rfl rfl (fun hA hM => ?_)
  show Em Γ (d + 1) MX12_noTray _ 0 [rv 211, iv t] [] m
  refine Ev.iload_n (q := 1) dX12_noTray_0 rfl rfl ?_
  refine Ev.i2l (q := 2) dX12_noTray_1 rfl ?_
  refine Ev.lconst (q := 3) dX12_noTray_2 kj_0 rfl ?_
  refine Ev.ldc2 (q := 6) dX12_noTray_3 klX12_323 klvX12_323 rfl ?_
  refine cS3i (q := 9) (d' := d + 0) dX12_noTray_6 mlX12_118 moX12_within msX12_within rfl rfl (Nat.le_refl _) rfl rfl rfl (p_X12_within _ _ _) (fun r1 m1 e1 => ?_)
  obtain ⟨rfl, e1⟩ := e1
  obtain rfl := e1.symm
  refine Ev.if_ne (tgt := 17) (q := 12) dX12_noTray_9 (by decide) rfl (fun h2 => ?_) (fun h2 => ?_)
  · skip
    have hin : 0 ≤ t ∧ t ≤ 3 := by split at h2 <;> omega
    refine Ev.aload_n (q := 18) dX12_noTray_17 rfl rfl ?_
    refine gR (q := 21) dX12_noTray_18 gfX12_42 k211 r211_32 rfl rfl ?_
    refine Ev.iload_n (q := 22) dX12_noTray_21 rfl rfl ?_
    refine aI (q := 23) (k := t.toNat) dX12_noTray_22 k220 (by first | rfl | omega | (simp (disch := omega) only [w32_of]; omega)) (by omega) rfl ?_
    refine Ev.iconst (q := 24) dX12_noTray_23 ki_m1 rfl ?_
    refine Ev.icmp_ne (tgt := 32) (q := 27) dX12_noTray_24 (by decide) rfl (fun h3 => ?_) (fun h3 => ?_)
    · skip
      refine Ev.iconst (q := 33) dX12_noTray_32 ki_0 rfl ?_
      refine rI dX12_noTray_33 rfl ?_
      refine ⟨?_, rfl⟩
      first | rw [if_pos (by omega)] | (rw [if_neg (by omega)]; first | rw [if_pos (by assumption)] | rw [if_neg (by assumption)])
    · skip
      refine Ev.bipush (q := 29) dX12_noTray_27 kb_m6 rfl ?_
      refine Ev.goto (q := 33) dX12_noTray_29 (by decide) ?_
      refine rI dX12_noTray_33 rfl ?_
      refine ⟨?_, rfl⟩
      first | rw [if_pos (by omega)] | (rw [if_neg (by omega)]; first | rw [if_pos (by assumption)] | rw [if_neg (by assumption)])
  · skip
    have hout : ¬ (0 ≤ t ∧ t ≤ 3) := by split at h2 <;> omega
    refine Ev.bipush (q := 14) dX12_noTray_12 kb_m2 rfl ?_
    refine Ev.goto (q := 33) dX12_noTray_14 (by decide) ?_
    refine rI dX12_noTray_33 rfl ?_
    refine ⟨?_, rfl⟩
    first | rw [if_pos (by omega)] | (rw [if_neg (by omega)]; first | rw [if_pos (by assumption)] | rw [if_neg (by assumption)])
def cutV (v : Int) (srt : Int) : Int := if srt = 0 then i8 (w32 v) else if srt = 1 then i16 (w32 v) else if srt = 2 then w32 v else v
set_option maxRecDepth 4000 in
theorem p_X12_cut {Γ : Gm} {d : Nat} {m : Mem} (v s : Int) : Ci Γ (d + 0) MX12_cut [jv v, iv s] m (fun r m' => r = cutV v s ∧ m' = m) := by
  refine Ci.of moX12_cut rfl rfl (fun hA hM => ?_)
  show Em Γ (d + 0) MX12_cut _ 0 [jv v, uv, iv s] [] m
  refine Ev.iload_n (q := 1) dX12_cut_0 rfl rfl ?_
  refine Ev.if_ne (tgt := 11) (q := 4) dX12_cut_1 (by decide) rfl (fun h1 => ?_) (fun h1 => ?_)
  · skip
    refine Ev.iload_n (q := 12) dX12_cut_11 rfl rfl ?_
    refine Ev.iconst (q := 13) dX12_cut_12 ki_1 rfl ?_
    refine Ev.icmp_ne (tgt := 23) (q := 16) dX12_cut_13 (by decide) rfl (fun h2 => ?_) (fun h2 => ?_)
    · skip
      refine Ev.iload_n (q := 24) dX12_cut_23 rfl rfl ?_
      refine Ev.iconst (q := 25) dX12_cut_24 ki_2 rfl ?_
      refine Ev.icmp_ne (tgt := 34) (q := 28) dX12_cut_25 (by decide) rfl (fun h3 => ?_) (fun h3 => ?_)
      · skip
        refine Ev.lload_n (q := 35) dX12_cut_34 rfl rfl ?_
        refine rJ dX12_cut_35 rfl ?_
        refine ⟨?_, rfl⟩
        unfold cutV
        repeat (first | rfl | omega | split)
      · skip
        refine Ev.lload_n (q := 29) dX12_cut_28 rfl rfl ?_
        refine Ev.l2i (q := 30) dX12_cut_29 rfl ?_
        refine Ev.i2l (q := 31) dX12_cut_30 rfl ?_
        refine Ev.goto (q := 35) dX12_cut_31 (by decide) ?_
        refine rJ dX12_cut_35 rfl ?_
        refine ⟨?_, rfl⟩
        unfold cutV
        repeat (first | rfl | omega | split)
    · skip
      refine Ev.lload_n (q := 17) dX12_cut_16 rfl rfl ?_
      refine Ev.l2i (q := 18) dX12_cut_17 rfl ?_
      refine Ev.i2s (q := 19) dX12_cut_18 rfl ?_
      refine Ev.i2l (q := 20) dX12_cut_19 rfl ?_
      refine Ev.goto (q := 35) dX12_cut_20 (by decide) ?_
      refine rJ dX12_cut_35 rfl ?_
      refine ⟨?_, rfl⟩
      unfold cutV
      repeat (first | rfl | omega | split)
  · skip
    refine Ev.lload_n (q := 5) dX12_cut_4 rfl rfl ?_
    refine Ev.l2i (q := 6) dX12_cut_5 rfl ?_
    refine Ev.i2b (q := 7) dX12_cut_6 rfl ?_
    refine Ev.i2l (q := 8) dX12_cut_7 rfl ?_
    refine Ev.goto (q := 35) dX12_cut_8 (by decide) ?_
    refine rJ dX12_cut_35 rfl ?_
    refine ⟨?_, rfl⟩
    unfold cutV
    repeat (first | rfl | omega | split)
