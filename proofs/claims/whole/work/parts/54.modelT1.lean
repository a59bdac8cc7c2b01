/-! ===== the reference: tokens ===== -/
set_option maxRecDepth 4000 in
theorem p_X12_see {Γ : Gm} {d : Nat} {m : Mem} (k N : Nat) (h8 : m 211 8 = N) (hN : N ≤ 900) : Ci Γ (d + 0) MX12_see [rv 211, iv k] m (fun r m' => r = (if k < N then m 214 k else -1) ∧ m' = m) := by
  refine Ci.of moX12_see rfl rfl (fun hA hM => ?_)
  show Em Γ (d + 0) MX12_see _ 0 [rv 211, iv k] [] m
  refine Ev.iload_n (q := 1) dX12_see_0 rfl rfl ?_
  refine Ev.aload_n (q := 2) dX12_see_1 rfl rfl ?_
  refine gI (q := 5) dX12_see_2 gfX12_59 k211 rfl rfl ?_
  rw [h8]
  refine Ev.icmp_ge (tgt := 17) (q := 8) dX12_see_5 (by decide) rfl (fun h1 => ?_) (fun h1 => ?_)
  · skip
    refine Ev.iconst (q := 18) dX12_see_17 ki_m1 rfl ?_
    refine rI dX12_see_18 rfl ?_
    exact ⟨by rw [if_neg (by omega)], rfl⟩
  · skip
    refine Ev.aload_n (q := 9) dX12_see_8 rfl rfl ?_
    refine gR (q := 12) dX12_see_9 gfX12_21 k211 r211_3 rfl rfl ?_
    refine Ev.iload_n (q := 13) dX12_see_12 rfl rfl ?_
    refine aI (q := 14) (k := k) dX12_see_13 k214 (by first | rfl | omega | (simp (disch := omega) only [w32_of]; omega)) (by omega) rfl ?_
    refine Ev.goto (q := 18) dX12_see_14 (by decide) ?_
    refine rI dX12_see_18 rfl ?_
    exact ⟨by rw [if_pos (by omega)], rfl⟩
set_option maxRecDepth 4000 in
theorem l_keyI {Γ : Gm} {d : Nat} {m : Mem} (a b : Nat) (R : Int) (ha : a ≤ b) (hb : b ≤ 900) (h6 : m 211 6 = a) (h7 : m 211 7 = b) (n sp len : Nat) (w : List Nat) (hw : w.length = len) (hsp : sp + len + 1 ≤ 97) (htab : ∀ i, i < len → chS 19 (sp + i) = (w.getD i 0 : Nat) ∧ ¬ (w.getD i 0) = 32) (htabE9 : chS 19 (sp + len) = 32)
    (hyes : wrdB (m 214) a b w = true → (n : Int) = R) (hno : wrdB (m 214) a b w = false → ∀ i : Nat, Em Γ (d + 4) MX12_keyAt (fun r m' => r = R ∧ m' = m) 97 [rv 211, iv n, iv sp, iv i] [] m) :
    ∀ (q i : Nat), i + q = len → a + i ≤ b → (∀ j, j < i → m 214 (a + j) = (w.getD j 0 : Nat)) → Em Γ (d + 4) MX12_keyAt (fun r m' => r = R ∧ m' = m) 15 [rv 211, iv n, iv sp, iv i] [] m := by
  intro q
  induction q with
  | zero =>
    intro i hi hab hm9
    obtain rfl : i = len := by omega
    have htabE := htabE9
    refine Ev.ldcS (q := 17) dX12_keyAt_15 (i := 19) rfl rfl ?_
    refine Ev.iload_n (q := 18) dX12_keyAt_17 rfl rfl ?_
    refine Ev.iload_n (q := 19) dX12_keyAt_18 rfl rfl ?_
    refine Ev.iadd (q := 20) dX12_keyAt_19 rfl ?_
    rw [show w32 ((sp : Int) + (i : Int)) = ((sp + i : Nat) : Int) by rw [w32_of (by omega) (by omega)]; omega]
    refine cVS (q := 23) (d' := d + 3) (i := 19) (As := [_]) (by decide) dX12_keyAt_20 mlX12_70 moJ0_charAt_5068e mvJ0_charAt_5068e rfl rfl rfl rfl (Nat.le_refl _) rfl rfl rfl (p_J0_charAt_5068e 19 (sp + i) (by decide) (by rw [kw_end.2.2]; omega)) (fun r1 m1 e1 => ?_)
    obtain ⟨rfl, e1⟩ := e1
    obtain rfl := e1.symm
    refine Ev.bipush (q := 25) dX12_keyAt_23 kb_32 rfl ?_
    rw [htabE]
    refine Ev.icmp_eq (tgt := 69) (q := 28) dX12_keyAt_25 (by decide) rfl (fun h2 => ?_) (fun h2 => ?_)
    · skip
      refine Ev.ldcS (q := 71) dX12_keyAt_69 (i := 19) rfl rfl ?_
      refine Ev.iload_n (q := 72) dX12_keyAt_71 rfl rfl ?_
      refine Ev.iload_n (q := 73) dX12_keyAt_72 rfl rfl ?_
      refine Ev.iadd (q := 74) dX12_keyAt_73 rfl ?_
      rw [show w32 ((sp : Int) + (i : Int)) = ((sp + i : Nat) : Int) by rw [w32_of (by omega) (by omega)]; omega]
      refine cVS (q := 77) (d' := d + 3) (i := 19) (As := [_]) (by decide) dX12_keyAt_74 mlX12_70 moJ0_charAt_5068e mvJ0_charAt_5068e rfl rfl rfl rfl (Nat.le_refl _) rfl rfl rfl (p_J0_charAt_5068e 19 (sp + i) (by decide) (by rw [kw_end.2.2]; omega)) (fun r3 m3 e3 => ?_)
      obtain ⟨rfl, e3⟩ := e3
      obtain rfl := e3.symm
      refine Ev.bipush (q := 79) dX12_keyAt_77 kb_32 rfl ?_
      rw [htabE]
      refine Ev.icmp_ne (tgt := 97) (q := 82) dX12_keyAt_79 (by decide) rfl (fun h4 => ?_) (fun h4 => ?_)
      · skip
        exact absurd rfl h4
      · skip
        refine Ev.aload_n (q := 83) dX12_keyAt_82 rfl rfl ?_
        refine gI (q := 86) dX12_keyAt_83 gfX12_74 k211 rfl rfl ?_
        refine Ev.iload_n (q := 87) dX12_keyAt_86 rfl rfl ?_
        refine Ev.iadd (q := 88) dX12_keyAt_87 rfl ?_
        refine Ev.aload_n (q := 89) dX12_keyAt_88 rfl rfl ?_
        refine gI (q := 92) dX12_keyAt_89 gfX12_77 k211 rfl rfl ?_
        rw [h6, h7]
        rw [show w32 ((a : Int) + (i : Int)) = ((a + i : Nat) : Int) by rw [w32_of (by omega) (by omega)]; omega]
        refine Ev.icmp_ne (tgt := 97) (q := 95) dX12_keyAt_92 (by decide) rfl (fun h5 => ?_) (fun h5 => ?_)
        · skip
          exact hno (Bool.eq_false_iff.mpr (fun z => by have := (wrdB_iff.mp z).1; omega)) i
        · skip
          refine Ev.iload_n (q := 96) dX12_keyAt_95 rfl rfl ?_
          refine rI dX12_keyAt_96 rfl ?_
          exact ⟨hyes (wrdB_iff.mpr ⟨by omega, fun j hj => hm9 j (by omega)⟩), rfl⟩
    · skip
      exact absurd rfl h2
  | succ q ih =>
    intro i hiq hab hm9
    have hi : i < len := by omega
    refine Ev.ldcS (q := 17) dX12_keyAt_15 (i := 19) rfl rfl ?_
    refine Ev.iload_n (q := 18) dX12_keyAt_17 rfl rfl ?_
    refine Ev.iload_n (q := 19) dX12_keyAt_18 rfl rfl ?_
    refine Ev.iadd (q := 20) dX12_keyAt_19 rfl ?_
    rw [show w32 ((sp : Int) + (i : Int)) = ((sp + i : Nat) : Int) by rw [w32_of (by omega) (by omega)]; omega]
    refine cVS (q := 23) (d' := d + 3) (i := 19) (As := [_]) (by decide) dX12_keyAt_20 mlX12_70 moJ0_charAt_5068e mvJ0_charAt_5068e rfl rfl rfl rfl (Nat.le_refl _) rfl rfl rfl (p_J0_charAt_5068e 19 (sp + i) (by decide) (by rw [kw_end.2.2]; omega)) (fun r1 m1 e1 => ?_)
    obtain ⟨rfl, e1⟩ := e1
    obtain rfl := e1.symm
    refine Ev.bipush (q := 25) dX12_keyAt_23 kb_32 rfl ?_
    rw [(htab i hi).1]
    refine Ev.icmp_eq (tgt := 69) (q := 28) dX12_keyAt_25 (by decide) rfl (fun h2 => ?_) (fun h2 => ?_)
    · skip
      exact absurd (by omega) (htab i hi).2
    · skip
      refine Ev.aload_n (q := 29) dX12_keyAt_28 rfl rfl ?_
      refine gI (q := 32) dX12_keyAt_29 gfX12_74 k211 rfl rfl ?_
      refine Ev.iload_n (q := 33) dX12_keyAt_32 rfl rfl ?_
      refine Ev.iadd (q := 34) dX12_keyAt_33 rfl ?_
      refine Ev.aload_n (q := 35) dX12_keyAt_34 rfl rfl ?_
      refine gI (q := 38) dX12_keyAt_35 gfX12_77 k211 rfl rfl ?_
      rw [h6, h7]
      rw [show w32 ((a : Int) + (i : Int)) = ((a + i : Nat) : Int) by rw [w32_of (by omega) (by omega)]; omega]
      refine Ev.icmp_ge (tgt := 69) (q := 41) dX12_keyAt_38 (by decide) rfl (fun h3 => ?_) (fun h3 => ?_)
      · skip
        refine Ev.ldcS (q := 71) dX12_keyAt_69 (i := 19) rfl rfl ?_
        refine Ev.iload_n (q := 72) dX12_keyAt_71 rfl rfl ?_
        refine Ev.iload_n (q := 73) dX12_keyAt_72 rfl rfl ?_
        refine Ev.iadd (q := 74) dX12_keyAt_73 rfl ?_
        rw [show w32 ((sp : Int) + (i : Int)) = ((sp + i : Nat) : Int) by rw [w32_of (by omega) (by omega)]; omega]
        refine cVS (q := 77) (d' := d + 3) (i := 19) (As := [_]) (by decide) dX12_keyAt_74 mlX12_70 moJ0_charAt_5068e mvJ0_charAt_5068e rfl rfl rfl rfl (Nat.le_refl _) rfl rfl rfl (p_J0_charAt_5068e 19 (sp + i) (by decide) (by rw [kw_end.2.2]; omega)) (fun r4 m4 e4 => ?_)
        obtain ⟨rfl, e4⟩ := e4
        obtain rfl := e4.symm
        refine Ev.bipush (q := 79) dX12_keyAt_77 kb_32 rfl ?_
        rw [(htab i hi).1]
        refine Ev.icmp_ne (tgt := 97) (q := 82) dX12_keyAt_79 (by decide) rfl (fun h5 => ?_) (fun h5 => ?_)
        · skip
          exact hno (Bool.eq_false_iff.mpr (fun z => by have := (wrdB_iff.mp z).1; omega)) i
        · skip
          exact absurd (by omega) (htab i hi).2
      · skip
        refine Ev.aload_n (q := 42) dX12_keyAt_41 rfl rfl ?_
        refine gR (q := 45) dX12_keyAt_42 gfX12_21 k211 r211_3 rfl rfl ?_
        refine Ev.aload_n (q := 46) dX12_keyAt_45 rfl rfl ?_
        refine gI (q := 49) dX12_keyAt_46 gfX12_74 k211 rfl rfl ?_
        refine Ev.iload_n (q := 50) dX12_keyAt_49 rfl rfl ?_
        refine Ev.iadd (q := 51) dX12_keyAt_50 rfl ?_
        rw [h6]
        rw [show w32 ((a : Int) + (i : Int)) = ((a + i : Nat) : Int) by rw [w32_of (by omega) (by omega)]; omega]
        refine aI (q := 52) (k := a + i) dX12_keyAt_51 k214 (by first | rfl | omega | (simp (disch := omega) only [w32_of]; omega)) (by omega) rfl ?_
        refine Ev.ldcS (q := 54) dX12_keyAt_52 (i := 19) rfl rfl ?_
        refine Ev.iload_n (q := 55) dX12_keyAt_54 rfl rfl ?_
        refine Ev.iload_n (q := 56) dX12_keyAt_55 rfl rfl ?_
        refine Ev.iadd (q := 57) dX12_keyAt_56 rfl ?_
        rw [show w32 ((sp : Int) + (i : Int)) = ((sp + i : Nat) : Int) by rw [w32_of (by omega) (by omega)]; omega]
        refine cVS (q := 60) (d' := d + 3) (i := 19) (As := [_]) (by decide) dX12_keyAt_57 mlX12_70 moJ0_charAt_5068e mvJ0_charAt_5068e rfl rfl rfl rfl (Nat.le_refl _) rfl rfl rfl (p_J0_charAt_5068e 19 (sp + i) (by decide) (by rw [kw_end.2.2]; omega)) (fun r6 m6 e6 => ?_)
        obtain ⟨rfl, e6⟩ := e6
        obtain rfl := e6.symm
        rw [(htab i hi).1]
        refine Ev.icmp_ne (tgt := 69) (q := 63) dX12_keyAt_60 (by decide) rfl (fun h7 => ?_) (fun h7 => ?_)
        · skip
          refine Ev.ldcS (q := 71) dX12_keyAt_69 (i := 19) rfl rfl ?_
          refine Ev.iload_n (q := 72) dX12_keyAt_71 rfl rfl ?_
          refine Ev.iload_n (q := 73) dX12_keyAt_72 rfl rfl ?_
          refine Ev.iadd (q := 74) dX12_keyAt_73 rfl ?_
          rw [show w32 ((sp : Int) + (i : Int)) = ((sp + i : Nat) : Int) by rw [w32_of (by omega) (by omega)]; omega]
          refine cVS (q := 77) (d' := d + 3) (i := 19) (As := [_]) (by decide) dX12_keyAt_74 mlX12_70 moJ0_charAt_5068e mvJ0_charAt_5068e rfl rfl rfl rfl (Nat.le_refl _) rfl rfl rfl (p_J0_charAt_5068e 19 (sp + i) (by decide) (by rw [kw_end.2.2]; omega)) (fun r8 m8 e8 => ?_)
          obtain ⟨rfl, e8⟩ := e8
          obtain rfl := e8.symm
          refine Ev.bipush (q := 79) dX12_keyAt_77 kb_32 rfl ?_
          rw [(htab i hi).1]
          refine Ev.icmp_ne (tgt := 97) (q := 82) dX12_keyAt_79 (by decide) rfl (fun h9 => ?_) (fun h9 => ?_)
          · skip
            exact hno (Bool.eq_false_iff.mpr (fun z => by have := (wrdB_iff.mp z).2 i (by omega); omega)) i
          · skip
            exact absurd (by omega) (htab i hi).2
        · skip
          refine iinc_3 (q := 66) dX12_keyAt_63 rfl rfl rfl ?_
          refine Ev.goto (q := 15) dX12_keyAt_66 (by decide) ?_
          rw [w32_of (by omega) (by omega)]
          exact ih (i + 1) (by omega) (by omega) (fun j hj => by
            by_cases e : j = i
            · rw [e]; omega
            · exact hm9 j (by omega))
set_option maxRecDepth 4000 in
theorem l_keyS {Γ : Gm} {d : Nat} {m : Mem} {Po : Int → Mem → Prop} (n sp len : Nat) (v3 : Vl) (w : List Nat) (hsp : sp + len + 1 ≤ 97) (htab : ∀ i, i < len → chS 19 (sp + i) = (w.getD i 0 : Nat) ∧ ¬ (w.getD i 0) = 32) (htabE : chS 19 (sp + len) = 32)
    (kont : Em Γ (d + 4) MX12_keyAt Po 114 [rv 211, iv n, iv ((sp + len : Nat) : Int), v3] [] m) :
    ∀ (q j : Nat), j + q = len → Em Γ (d + 4) MX12_keyAt Po 97 [rv 211, iv n, iv ((sp + j : Nat) : Int), v3] [] m := by
  intro q
  induction q with
  | zero =>
    intro j hj
    obtain rfl : j = len := by omega
    refine Ev.ldcS (q := 99) dX12_keyAt_97 (i := 19) rfl rfl ?_
    refine Ev.iload_n (q := 100) dX12_keyAt_99 rfl rfl ?_
    refine cVS (q := 103) (d' := d + 3) (i := 19) (As := [_]) (by decide) dX12_keyAt_100 mlX12_70 moJ0_charAt_5068e mvJ0_charAt_5068e rfl rfl rfl rfl (Nat.le_refl _) rfl rfl rfl (p_J0_charAt_5068e 19 (sp + j) (by decide) (by rw [kw_end.2.2]; omega)) (fun r1 m1 e1 => ?_)
    obtain ⟨rfl, e1⟩ := e1
    obtain rfl := e1.symm
    refine Ev.bipush (q := 105) dX12_keyAt_103 kb_32 rfl ?_
    rw [htabE]
    refine Ev.icmp_eq (tgt := 114) (q := 108) dX12_keyAt_105 (by decide) rfl (fun h2 => ?_) (fun h2 => ?_)
    · skip
      exact kont
    · skip
      exact absurd rfl h2
  | succ q ih =>
    intro j hj
    refine Ev.ldcS (q := 99) dX12_keyAt_97 (i := 19) rfl rfl ?_
    refine Ev.iload_n (q := 100) dX12_keyAt_99 rfl rfl ?_
    refine cVS (q := 103) (d' := d + 3) (i := 19) (As := [_]) (by decide) dX12_keyAt_100 mlX12_70 moJ0_charAt_5068e mvJ0_charAt_5068e rfl rfl rfl rfl (Nat.le_refl _) rfl rfl rfl (p_J0_charAt_5068e 19 (sp + j) (by decide) (by rw [kw_end.2.2]; omega)) (fun r1 m1 e1 => ?_)
    obtain ⟨rfl, e1⟩ := e1
    obtain rfl := e1.symm
    refine Ev.bipush (q := 105) dX12_keyAt_103 kb_32 rfl ?_
    rw [(htab j (by omega)).1]
    refine Ev.icmp_eq (tgt := 114) (q := 108) dX12_keyAt_105 (by decide) rfl (fun h2 => ?_) (fun h2 => ?_)
    · skip
      exact absurd (by omega) (htab j (by omega)).2
    · skip
      refine iinc_2 (q := 111) dX12_keyAt_108 rfl rfl rfl ?_
      refine Ev.goto (q := 97) dX12_keyAt_111 (by decide) ?_
      rw [w32_of (by omega) (by omega)]
      exact ih (j + 1) (by omega)
set_option maxRecDepth 4000 in
theorem l_keyO {Γ : Gm} {d : Nat} {m : Mem} (a b : Nat) (R : Int) (ha : a ≤ b) (hb : b ≤ 900) (h6 : m 211 6 = a) (h7 : m 211 7 = b) : ∀ (q n sp : Nat) (v3 : Vl), n + q = 19 → kwP.getD n 0 = sp → keyF (m 214) a b q n = R → Em Γ (d + 4) MX12_keyAt (fun r m' => r = R ∧ m' = m) 4 [rv 211, iv n, iv sp, v3] [] m := by
  intro q
  induction q with
  | zero =>
    intro n sp v3 hn hsp hR
    obtain rfl : n = 19 := by omega
    refine Ev.iload_n (q := 5) dX12_keyAt_4 rfl rfl ?_
    refine Ev.ldcS (q := 7) dX12_keyAt_5 (i := 19) rfl rfl ?_
    refine cVS (q := 10) (d' := d + 3) (i := 19) (As := []) (by decide) dX12_keyAt_7 mlX12_64 moJ0_length_8abf5 mvJ0_length_8abf5 rfl rfl rfl rfl (Nat.le_refl _) rfl rfl rfl (p_J0_length_8abf5 19 (by decide)) (fun r1 m1 e1 => ?_)
    obtain ⟨rfl, e1⟩ := e1
    obtain rfl := e1.symm
    refine Ev.icmp_ge (tgt := 123) (q := 13) dX12_keyAt_10 (by decide) rfl (fun h2 => ?_) (fun h2 => ?_)
    · skip
      refine Ev.bipush (q := 125) dX12_keyAt_123 kb_22 rfl ?_
      refine rI dX12_keyAt_125 rfl ?_
      exact ⟨by rw [← hR]; rfl, rfl⟩
    · skip
      have := kw_end.1; omega
  | succ q ih =>
    intro n sp v3 hnq hsp hR
    have htab := kw_tab n (by omega)
    have hlen6 := htab.2.2.2.1
    have hle98 : sp + (kwT.getD n []).length + 1 ≤ 97 := by rw [← hsp]; exact htab.2.2.1
    refine Ev.iload_n (q := 5) dX12_keyAt_4 rfl rfl ?_
    refine Ev.ldcS (q := 7) dX12_keyAt_5 (i := 19) rfl rfl ?_
    refine cVS (q := 10) (d' := d + 3) (i := 19) (As := []) (by decide) dX12_keyAt_7 mlX12_64 moJ0_length_8abf5 mvJ0_length_8abf5 rfl rfl rfl rfl (Nat.le_refl _) rfl rfl rfl (p_J0_length_8abf5 19 (by decide)) (fun r1 m1 e1 => ?_)
    obtain ⟨rfl, e1⟩ := e1
    obtain rfl := e1.symm
    refine Ev.icmp_ge (tgt := 123) (q := 13) dX12_keyAt_10 (by decide) rfl (fun h2 => ?_) (fun h2 => ?_)
    · skip
      have := kw_end.2.2; omega
    · skip
      refine Ev.iconst (q := 14) dX12_keyAt_13 ki_0 rfl ?_
      refine istore_n_3 (q := 15) dX12_keyAt_14 rfl rfl rfl ?_
      refine l_keyI (Γ := Γ) (d := d) a b R ha hb h6 h7 n sp (kwT.getD n []).length (kwT.getD n []) rfl (by omega) (fun i hi => by rw [← hsp]; exact htab.2.2.2.2 i hi) (by rw [← hsp]; exact htab.1) (fun hy => ?_) (fun hn i => ?_) (kwT.getD n []).length 0 (by omega) (by omega) (fun j hj => by omega)
      · rw [← hR]
        unfold keyF
        rw [if_pos hy]
      · have hk9 := l_keyS (Γ := Γ) (d := d) (m := m) (Po := fun r m' => r = R ∧ m' = m) n sp (kwT.getD n []).length (iv i) (kwT.getD n []) (by omega) (fun i hi => by rw [← hsp]; exact htab.2.2.2.2 i hi) (by rw [← hsp]; exact htab.1) ?_ (kwT.getD n []).length 0 (by omega)
        · exact hk9
        · skip
          refine iinc_2 (q := 117) dX12_keyAt_114 rfl rfl rfl ?_
          refine iinc_1 (q := 120) dX12_keyAt_117 rfl rfl rfl ?_
          refine Ev.goto (q := 4) dX12_keyAt_120 (by decide) ?_
          rw [w32_of (by omega) (by omega), w32_of (by omega) (by omega)]
          refine ih (n + 1) (sp + (kwT.getD n []).length + 1) (iv i) (by omega) (by rw [← hsp]; exact htab.2.1) ?_
          rw [← hR]
          conv => rhs; unfold keyF
          rw [if_neg (by rw [hn]; decide)]
set_option maxRecDepth 4000 in
theorem p_X12_keyAt {Γ : Gm} {d : Nat} {m : Mem} (a b : Nat) (ha : a ≤ b) (hb : b ≤ 900) (h6 : m 211 6 = a) (h7 : m 211 7 = b) : Ci Γ (d + 4) MX12_keyAt [rv 211] m (fun r m' => r = keyV (m 214) a b ∧ m' = m) := by
  refine Ci.of moX12_keyAt rfl rfl (fun hA hM => ?_)
  show Em Γ (d + 4) MX12_keyAt _ 0 [rv 211, uv, uv, uv] [] m
  refine Ev.iconst (q := 1) dX12_keyAt_0 ki_0 rfl ?_
  refine istore_n_1 (q := 2) dX12_keyAt_1 rfl rfl rfl ?_
  refine Ev.iconst (q := 3) dX12_keyAt_2 ki_1 rfl ?_
  refine istore_n_2 (q := 4) dX12_keyAt_3 rfl rfl rfl ?_
  exact l_keyO a b _ ha hb h6 h7 19 0 1 uv (by omega) kw_end.2.1 rfl
