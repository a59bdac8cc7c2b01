/-! ===== the reference: rides on, the best way home ===== -/
set_option maxRecDepth 4000 in
theorem l_ridesTo {Γ : Gm} {d : Nat} {m0 : Mem} (l F f : Nat) (hF : m0 212 1 = F) (hl : l < 3) (hlaw : LawOk (m0 212) 1) (hf : f < F) : ∀ (n h : Nat) (tt : Int) (s : Nat) (u : Bool) (c : Int) (m : Mem), pop s < n → Fr sT m0 m → m 212 = m0 212 → TMc m l (h, tt, s, u, c) → tOk2 F (h, tt, s, u, c) → Em Γ (d + 4) MX12_ridesTo (fun r m' => r = (match rto (m0 212 (22 + l)) (stopV (m0 212) l) f n (h, tt, s, u, c) with | some t' => t'.2.2.2.2 | none => -1) ∧ (∀ t', rto (m0 212 (22 + l)) (stopV (m0 212) l) f n (h, tt, s, u, c) = some t' → TMc m' l t') ∧ Fr sT m0 m') 0 [rv 211, iv f] [] m := by
  intro n
  induction n with
  | zero => intro h tt s u c m hp; omega
  | succ n ih =>
    intro h tt s u c m hp hF0 g12 hT hok
    refine Ev.aload_n (q := 1) dX12_ridesTo_0 rfl rfl ?_
    refine gI (q := 4) dX12_ridesTo_1 gfX12_200 k211 rfl rfl ?_
    rw [hT.1.2.2.2.1]
    refine Ev.i2l (q := 5) dX12_ridesTo_4 rfl ?_
    refine Ev.iload_n (q := 6) dX12_ridesTo_5 rfl rfl ?_
    refine cS2i (q := 9) (d' := d + 3) dX12_ridesTo_6 mlX12_207 moX12_isIn msX12_isIn rfl rfl (Nat.le_refl _) rfl rfl rfl (p_X12_isIn s f (lt4096 hok.1.2.2 hok.1.1) (by have := hok.1.1; omega)) (fun r1 m1 e1 => ?_)
    obtain ⟨rfl, e1⟩ := e1
    obtain rfl := e1.symm
    refine Ev.if_eq (tgt := 25) (q := 12) dX12_ridesTo_9 (by decide) rfl (fun h2 => ?_) (fun h2 => ?_)
    · skip
      have hb : s.testBit f = false := by split at h2 <;> simp_all
      refine Ev.iconst (q := 26) dX12_ridesTo_25 ki_m1 rfl ?_
      refine rI dX12_ridesTo_26 rfl ?_
      refine ⟨?_, fun t9 ht9 => ?_, hF0⟩
      · unfold rto
        rw [if_neg (by rw [hb]; decide)]
      · unfold rto at ht9
        rw [if_neg (by rw [hb]; decide)] at ht9
        cases ht9
    · skip
      have hb : s.testBit f = true := by split at h2 <;> simp_all
      refine Ev.aload_n (q := 13) dX12_ridesTo_12 rfl rfl ?_
      refine cV0i (q := 16) (d' := d + 3) dX12_ridesTo_13 mlX12_251 moX12_goes mvX12_goes k211 rfl rfl rfl (Nat.le_refl _) rfl rfl rfl (p_X12_goes l F h tt s u c hT.1 hok.1 (by rw [g12]; exact hF) hl (by rw [g12]; exact hlaw)) (fun r3 m3 e3 => ?_)
      obtain ⟨eN, eS⟩ := e3
      rw [g12] at eN eS
      obtain ⟨t', ht'⟩ : ∃ t', tgo (m0 212 (22 + l)) (stopV (m0 212) l) (h, tt, s, u, c) = some t' := by
        cases hq : tgo (m0 212 (22 + l)) (stopV (m0 212) l) (h, tt, s, u, c) with
        | none =>
          have hz := tgo_none hok hq
          dsimp only at hz
          rw [hz, Nat.zero_testBit] at hb
          cases hb
        | some t' => exact ⟨t', rfl⟩
      obtain ⟨rfl, hT', hfr⟩ := eS t' ht'
      have hok' := tgo_ok2 hok ht'
      have hpop := tgo_pop hok ht'
      dsimp only at hpop
      refine Ev.iload_n (q := 17) dX12_ridesTo_16 rfl rfl ?_
      refine Ev.icmp_ne (tgt := 0) (q := 20) dX12_ridesTo_17 (by decide) rfl (fun h4 => ?_) (fun h4 => ?_)
      · skip
        have hff : ¬ t'.1 = f := by omega
        have hr : rto (m0 212 (22 + l)) (stopV (m0 212) l) f (n + 1) (h, tt, s, u, c) = rto (m0 212 (22 + l)) (stopV (m0 212) l) f n t' := by
          conv => lhs; unfold rto
          rw [if_pos hb, ht']
          dsimp only
          rw [if_neg hff]
        rw [hr]
        obtain ⟨h9, tt9, s9, u9, c9⟩ := t'
        exact ih h9 tt9 s9 u9 c9 _ (by dsimp only at hpop; omega) (hF0.tr hfr) (by rw [hfr.row 212 (fun _ => rfl)]; exact g12) hT' hok'
      · skip
        refine Ev.aload_n (q := 21) dX12_ridesTo_20 rfl rfl ?_
        refine gI (q := 24) dX12_ridesTo_21 gfX12_221 k211 rfl rfl ?_
        refine rI dX12_ridesTo_24 rfl ?_
        have hff : t'.1 = f := by omega
        have hr : rto (m0 212 (22 + l)) (stopV (m0 212) l) f (n + 1) (h, tt, s, u, c) = some t' := by
          unfold rto
          rw [if_pos hb, ht']
          dsimp only
          rw [if_pos hff]
        refine ⟨?_, fun t9 ht9 => ?_, hF0.tr hfr⟩
        · rw [hr]
          exact hT'.2
        · rw [hr] at ht9
          cases ht9
          exact hT'
set_option maxRecDepth 4000 in
theorem p_X12_ridesTo {Γ : Gm} {d : Nat} {m : Mem} (l F f h : Nat) (tt : Int) (s : Nat) (u : Bool) (c : Int) (hF : m 212 1 = F) (hl : l < 3) (hlaw : LawOk (m 212) 1) (hf : f < F) (hT : TMc m l (h, tt, s, u, c)) (hok : tOk2 F (h, tt, s, u, c)) : Ci Γ (d + 4) MX12_ridesTo [rv 211, iv f] m (fun r m' => r = (match rto (m 212 (22 + l)) (stopV (m 212) l) f 13 (h, tt, s, u, c) with | some t' => t'.2.2.2.2 | none => -1) ∧ (∀ t', rto (m 212 (22 + l)) (stopV (m 212) l) f 13 (h, tt, s, u, c) = some t' → TMc m' l t') ∧ Fr sT m m') := by
  refine Ci.of moX12_ridesTo rfl rfl (fun hA hM => ?_)
  show Em Γ (d + 4) MX12_ridesTo _ 0 [rv 211, iv f] [] m
  exact l_ridesTo l F f hF hl hlaw hf 13 h tt s u c m (by have := pop_le s; omega) (Fr.rf _ _) rfl hT hok
set_option maxRecDepth 4000 in
theorem l_bestBy {Γ : Gm} {d : Nat} {m0 : Mem} (x2 : Int) (p l F hm : Nat) (hp : p < 8) (hl : l < 3) (hF : m0 212 1 = F) (hhm : m0 212 (28 + p) = hm) (hhF : hm < F) (hlaw0 : LawOk (m0 212) 0) (hlaw1 : LawOk (m0 212) 1) (hld : 0 ≤ m0 212 (36 + p) ∧ m0 212 (36 + p) ≤ 99) (hag : 0 ≤ m0 212 (44 + p) ∧ m0 212 (44 + p) ≤ 99) : ∀ (n h : Nat) (tt : Int) (s : Nat) (u : Bool) (c : Int) (bb oo : Int) (v4 v5 : Vl) (m : Mem), pop s < n → Fr sBe m0 m → m 212 = m0 212 → m 211 27 = oo → TMc m l (h, tt, s, u, c) → tOk2 F (h, tt, s, u, c) → Em Γ (d + 4) MX12_bestBy (fun r m' => r = (bstL (m0 212 (22 + l)) (stopV (m0 212) l) (fun f => footV (m0 212) p f (m0 212 (28 + p)).toNat) n (h, tt, s, u, c) (bb, oo)).1 ∧ m' 211 27 = (bstL (m0 212 (22 + l)) (stopV (m0 212) l) (fun f => footV (m0 212) p f (m0 212 (28 + p)).toNat) n (h, tt, s, u, c) (bb, oo)).2 ∧ Fr sBe m0 m') 80 [rv 211, iv p, iv x2, iv bb, v4, v5] [] m := by
  intro n
  induction n with
  | zero => intro h tt s u c bb oo v4 v5 m hp; omega
  | succ n ih =>
    intro h tt s u c bb oo v4 v5 m hpp hF0 g12 ho hT hok
    refine Ev.aload_n (q := 81) dX12_bestBy_80 rfl rfl ?_
    refine gI (q := 84) dX12_bestBy_81 gfX12_200 k211 rfl rfl ?_
    rw [hT.1.2.2.2.1]
    refine Ev.if_eq (tgt := 137) (q := 87) dX12_bestBy_84 (by decide) rfl (fun h1 => ?_) (fun h1 => ?_)
    · skip
      dsimp only at h1
      refine Ev.iload_n (q := 138) dX12_bestBy_137 rfl rfl ?_
      refine rI dX12_bestBy_138 rfl ?_
      have hz : s = 0 := by omega
      refine ⟨?_, ?_, hF0⟩ <;> · unfold bstL; rw [tgo_zero hz]; try first | rfl | exact ho
    · skip
      dsimp only at h1
      refine Ev.aload_n (q := 88) dX12_bestBy_87 rfl rfl ?_
      refine cV0i (q := 91) (d' := d + 3) dX12_bestBy_88 mlX12_251 moX12_goes mvX12_goes k211 rfl rfl rfl (Nat.le_refl _) rfl rfl rfl (p_X12_goes l F h tt s u c hT.1 hok.1 (by rw [g12]; exact hF) hl (by rw [g12]; exact hlaw1)) (fun r2 m2 e2 => ?_)
      obtain ⟨eN, eS⟩ := e2
      rw [g12] at eN eS
      obtain ⟨t', ht'⟩ : ∃ t', tgo (m0 212 (22 + l)) (stopV (m0 212) l) (h, tt, s, u, c) = some t' := by
        cases hq : tgo (m0 212 (22 + l)) (stopV (m0 212) l) (h, tt, s, u, c) with
        | none =>
          have hz := tgo_none hok hq
          dsimp only at hz
          omega
        | some t' => exact ⟨t', rfl⟩
      obtain ⟨rfl, hT', hfr⟩ := eS t' ht'
      have hok' := tgo_ok2 hok ht'
      have hpop := tgo_pop hok ht'
      dsimp only at hpop
      have hF1 := hF0.tr (hfr.mono (fun a k q => sBe_T q))
      generalize m2 = M1 at *
      have g1 : M1 212 = m0 212 := by rw [hfr.row 212 (fun _ => rfl)]; exact g12
      obtain ⟨h9, tt9, s9, u9, c9⟩ := t'
      dsimp only at hpop
      have hlt9 : h9 < F := hok'.1.2.1
      have hF12 := hok.1.1
      refine istore_4 (q := 93) dX12_bestBy_91 rfl rfl rfl ?_
      refine Ev.aload_n (q := 94) dX12_bestBy_93 rfl rfl ?_
      refine gI (q := 97) dX12_bestBy_94 gfX12_221 k211 rfl rfl ?_
      rw [show M1 211 22 = c9 from hT'.2]
      refine Ev.aload_n (q := 98) dX12_bestBy_97 rfl rfl ?_
      refine Ev.iload_n (q := 99) dX12_bestBy_98 rfl rfl ?_
      refine Ev.iload (q := 101) dX12_bestBy_99 rfl rfl ?_
      refine Ev.aload_n (q := 102) dX12_bestBy_101 rfl rfl ?_
      refine gR (q := 105) dX12_bestBy_102 gfX12_13 k211 r211_1 rfl rfl ?_
      refine Ev.bipush (q := 107) dX12_bestBy_105 kb_28 rfl ?_
      refine Ev.iload_n (q := 108) dX12_bestBy_107 rfl rfl ?_
      refine Ev.iadd (q := 109) dX12_bestBy_108 rfl ?_
      refine aI (q := 110) (k := 28 + p) dX12_bestBy_109 k212 (by first | rfl | omega | (simp (disch := omega) only [w32_of]; omega)) (by omega) rfl ?_
      rw [show M1 212 (28 + p) = hm by rw [g1]; exact hhm]
      refine cV3i (q := 113) (d' := d + 3) dX12_bestBy_110 mlX12_246 moX12_footOf mvX12_footOf k211 rfl rfl rfl (Nat.le_refl _) rfl rfl rfl (p_X12_footOf p h9 hm hp (by omega) (by omega) (by rw [g1]; exact hlaw0) (by rw [g1]; exact hld) (by rw [g1]; exact hag)) (fun r3 m3 e3 => ?_)
      obtain ⟨rfl, hfr2⟩ := e3
      rw [g1]
      have hF2 := hF1.tr (hfr2.mono (fun a k q => sT_16 (sBe_T q)))
      have hT2 : ∀ k, m3 211 k = M1 211 k := fun k => hfr2 211 k rfl
      generalize m3 = M2 at *
      have g2 : M2 212 = m0 212 := by rw [hfr2.row 212 (fun _ => rfl)]; exact g1
      have hT3 : TMc M2 l (h9, tt9, s9, u9, c9) := by
        unfold TMc TM
        rw [hT2, hT2, hT2, hT2, hT2, hT2]
        exact hT'
      have hbl : bstL (m0 212 (22 + l)) (stopV (m0 212) l) (fun f => footV (m0 212) p f (m0 212 (28 + p)).toNat) (n + 1) (h, tt, s, u, c) (bb, oo) = bstL (m0 212 (22 + l)) (stopV (m0 212) l) (fun f => footV (m0 212) p f (m0 212 (28 + p)).toNat) n (h9, tt9, s9, u9, c9) (if w32 (c9 + footV (m0 212) p h9 hm) < bb then (w32 (c9 + footV (m0 212) p h9 hm), (h9 : Int)) else (bb, oo)) := by
        conv => lhs; unfold bstL
        rw [ht', hhm]
        simp only [Int.toNat_natCast]
      rw [hbl]
      refine Ev.iadd (q := 114) dX12_bestBy_113 rfl ?_
      refine istore_5 (q := 116) dX12_bestBy_114 rfl rfl rfl ?_
      refine Ev.iload (q := 118) dX12_bestBy_116 rfl rfl ?_
      refine Ev.iload_n (q := 119) dX12_bestBy_118 rfl rfl ?_
      refine Ev.icmp_lt (tgt := 125) (q := 122) dX12_bestBy_119 (by decide) rfl (fun h4 => ?_) (fun h4 => ?_)
      · skip
        refine Ev.iload (q := 127) dX12_bestBy_125 rfl rfl ?_
        refine istore_n_3 (q := 128) dX12_bestBy_127 rfl rfl rfl ?_
        refine Ev.aload_n (q := 129) dX12_bestBy_128 rfl rfl ?_
        refine Ev.iload (q := 131) dX12_bestBy_129 rfl rfl ?_
        refine pI (q := 134) dX12_bestBy_131 gfX12_355 k211 rfl rfl ?_
        refine Ev.goto (q := 80) dX12_bestBy_134 (by decide) ?_
        rw [if_pos (by omega)]
        exact ih h9 tt9 s9 u9 c9 _ _ _ _ _ (by omega) (hF2.up rfl) (by rw [up_na _ _ (by decide)]; exact g2) (up_eq _ _ _ _) (by
          unfold TMc TM
          simp (disch := omega) only [up_k]
          exact hT3) hok'
      · skip
        refine Ev.goto (q := 80) dX12_bestBy_122 (by decide) ?_
        rw [if_neg (by omega)]
        exact ih h9 tt9 s9 u9 c9 _ _ _ _ _ (by omega) hF2 g2 (by rw [hT2, hfr 211 27 rfl]; exact ho) hT3 hok'
