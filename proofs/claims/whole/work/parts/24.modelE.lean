/-! ===== the reference: a ride ===== -/
theorem far_dst (a b : Nat) (ha : a < 100) (hb : b < 100) : (if (a : Int) < b then w32 ((b : Int) - a) else w32 ((a : Int) - b)) = (dst a b : Int) := by
  unfold dst
  by_cases h : a < b
  · rw [if_pos (by omega), if_pos h, w32_of (by omega) (by omega)]; omega
  · rw [if_neg (by omega), if_neg h, w32_of (by omega) (by omega)]; omega
set_option maxRecDepth 4000 in
theorem p_X12_goes {Γ : Gm} {d : Nat} {m : Mem}  (l F h : Nat) (tt : Int) (s : Nat) (u : Bool) (c : Int) (hT : TM m l (h, tt, s, u, c)) (hok : tOk F (h, tt, s, u, c)) (hF : m 212 1 = F) (hl : l < 3) (hlaw : LawOk (m 212) 1) : Ci Γ (d + 3) MX12_goes [rv 211] m (fun r m' => (tgo (m 212 (22 + l)) (stopV (m 212) l) (h, tt, s, u, c) = none → r = -1 ∧ m' = m) ∧ ∀ t', tgo (m 212 (22 + l)) (stopV (m 212) l) (h, tt, s, u, c) = some t' → r = t'.1 ∧ TMc m' l t' ∧ Fr sT m m') := by
  refine Ci.of moX12_goes rfl rfl (fun hA hM => ?_)
  show Em Γ (d + 3) MX12_goes _ 0 [rv 211, uv] [] m
  obtain ⟨e18, e19, e20, e21, e23⟩ := hT
  obtain ⟨hF12, hhF, hsF⟩ := hok
  dsimp only at e18 e19 e20 e21 e23 hF12 hhF hsF
  have hs4 := lt4096 hsF hF12
  refine Ev.aload_n (q := 1) dX12_goes_0 rfl rfl ?_
  refine cV0i (q := 4) (d' := d + 2) dX12_goes_1 mlX12_215 moX12_nextStop mvX12_nextStop k211 rfl rfl rfl (Nat.le_refl _) rfl rfl rfl (p_X12_nextStop u h s F e19 e21 hF hhF hF12 hsF e23) (fun r1 m1 e1 => ?_)
  obtain ⟨rfl, e1⟩ := e1
  obtain rfl := e1.symm
  refine istore_n_1 (q := 5) dX12_goes_4 rfl rfl rfl ?_
  refine Ev.iload_n (q := 6) dX12_goes_5 rfl rfl ?_
  refine Ev.iconst (q := 7) dX12_goes_6 ki_m1 rfl ?_
  refine Ev.icmp_ne (tgt := 12) (q := 10) dX12_goes_7 (by decide) rfl (fun h2 => ?_) (fun h2 => ?_)
  · skip
    obtain ⟨f, hf⟩ : ∃ f, nxt s h u = some f := by
      cases hq : nxt s h u with
      | none => rw [hq] at h2; exact absurd rfl h2
      | some f => exact ⟨f, rfl⟩
    obtain ⟨hfb, hfh⟩ := nxt_some hf
    have hfF := bit_lt hsF hfb
    rw [hf]
    show Ev _ _ _ _ _ 12 [rv 211, iv (f : Int)] [] _ _
    refine Ev.aload_n (q := 13) dX12_goes_12 rfl rfl ?_
    refine Ev.iload_n (q := 14) dX12_goes_13 rfl rfl ?_
    refine Ev.aload_n (q := 15) dX12_goes_14 rfl rfl ?_
    refine gI (q := 18) dX12_goes_15 gfX12_194 k211 rfl rfl ?_
    rw [e19]
    refine Ev.icmp_le (tgt := 25) (q := 21) dX12_goes_18 (by decide) rfl (fun h3 => ?_) (fun h3 => ?_)
    · skip
      refine Ev.iconst (q := 26) dX12_goes_25 ki_0 rfl ?_
      rw [show (0 : Int) = (if h < f then 1 else 0) by rw [if_neg (by omega)]]
      refine pZ (q := 29) dX12_goes_26 gfX12_203 k211 (by split <;> simp) rfl rfl ?_
      obtain ⟨M1, hM1⟩ : ∃ M1, M1 = up m 211 23 (if h < f then 1 else 0) := ⟨_, rfl⟩
      rw [← hM1]
      have g12 : M1 212 = m 212 := by rw [hM1]; exact up_na _ _ (by decide)
      have f18 : M1 211 18 = l := by rw [hM1, up_k _ _ (by decide)]; exact e18
      have f19 : M1 211 19 = h := by rw [hM1, up_k _ _ (by decide)]; exact e19
      have f20 : M1 211 20 = tt := by rw [hM1, up_k _ _ (by decide)]; exact e20
      have f21 : M1 211 21 = s := by rw [hM1, up_k _ _ (by decide)]; exact e21
      refine Ev.aload_n (q := 30) dX12_goes_29 rfl rfl ?_
      refine Ev.aload_n (q := 31) dX12_goes_30 rfl rfl ?_
      refine gI (q := 34) dX12_goes_31 gfX12_197 k211 rfl rfl ?_
      rw [f20]
      refine Ev.aload_n (q := 35) dX12_goes_34 rfl rfl ?_
      refine gR (q := 38) dX12_goes_35 gfX12_13 k211 r211_1 rfl rfl ?_
      refine Ev.bipush (q := 40) dX12_goes_38 kb_22 rfl ?_
      refine Ev.aload_n (q := 41) dX12_goes_40 rfl rfl ?_
      refine gI (q := 44) dX12_goes_41 gfX12_191 k211 rfl rfl ?_
      rw [f18]
      refine Ev.iadd (q := 45) dX12_goes_44 rfl ?_
      refine aI (q := 46) (k := 22 + l) dX12_goes_45 k212 (by first | rfl | omega | (simp (disch := omega) only [w32_of]; omega)) (by omega) rfl ?_
      rw [g12]
      refine Ev.aload_n (q := 47) dX12_goes_46 rfl rfl ?_
      refine gI (q := 50) dX12_goes_47 gfX12_194 k211 rfl rfl ?_
      rw [f19]
      refine Ev.iload_n (q := 51) dX12_goes_50 rfl rfl ?_
      refine cS2i (q := 54) (d' := d + 2) dX12_goes_51 mlX12_218 moX12_far msX12_far rfl rfl (Nat.le_refl _) rfl rfl rfl (p_X12_far _ _) (fun r4 m4 e4 => ?_)
      obtain ⟨rfl, e4⟩ := e4
      obtain rfl := e4.symm
      rw [far_dst h f (by omega) (by omega)]
      refine Ev.imul (q := 55) dX12_goes_54 rfl ?_
      refine Ev.iadd (q := 56) dX12_goes_55 rfl ?_
      refine pI (q := 59) dX12_goes_56 gfX12_221 k211 rfl rfl ?_
      obtain ⟨cc, hcc⟩ : ∃ cc, cc = w32 (tt + w32 (m 212 (22 + l) * (dst h f : Int))) := ⟨_, rfl⟩
      rw [← hcc]
      obtain ⟨M2, hM2⟩ : ∃ M2, M2 = up M1 211 22 cc := ⟨_, rfl⟩
      rw [← hM2]
      have g22 : M2 212 = m 212 := by rw [hM2, up_na _ _ (by decide)]; exact g12
      have i18 : M2 211 18 = l := by rw [hM2, up_k _ _ (by decide)]; exact f18
      have i21 : M2 211 21 = s := by rw [hM2, up_k _ _ (by decide)]; exact f21
      have i22 : M2 211 22 = cc := by rw [hM2]; exact up_eq _ _ _ _
      refine Ev.aload_n (q := 60) dX12_goes_59 rfl rfl ?_
      refine Ev.aload_n (q := 61) dX12_goes_60 rfl rfl ?_
      refine gI (q := 64) dX12_goes_61 gfX12_221 k211 rfl rfl ?_
      rw [i22]
      refine Ev.aload_n (q := 65) dX12_goes_64 rfl rfl ?_
      refine Ev.aload_n (q := 66) dX12_goes_65 rfl rfl ?_
      refine gI (q := 69) dX12_goes_66 gfX12_191 k211 rfl rfl ?_
      rw [i18]
      refine Ev.iload_n (q := 70) dX12_goes_69 rfl rfl ?_
      refine Ev.aload_n (q := 71) dX12_goes_70 rfl rfl ?_
      refine gI (q := 74) dX12_goes_71 gfX12_200 k211 rfl rfl ?_
      rw [i21]
      refine cS1i (q := 77) (d' := d + 2) dX12_goes_74 mlX12_224 moX12_bitsOf msX12_bitsOf rfl rfl (Nat.le_refl _) rfl rfl rfl (p_X12_bitsOf s hs4) (fun r5 m5 e5 => ?_)
      obtain ⟨rfl, e5⟩ := e5
      obtain rfl := e5.symm
      refine cV3i (q := 80) (d' := d + 2) dX12_goes_77 mlX12_227 moX12_stopOf mvX12_stopOf k211 rfl rfl rfl (Nat.le_refl _) rfl rfl rfl (p_X12_stopOf l f (pop s) hl (by omega) (by have := pop_le s; omega) (by rw [g22]; exact hlaw)) (fun r6 m6 e6 => ?_)
      obtain ⟨rfl, hf9⟩ := e6
      rw [g22]
      generalize hM3 : m6 = M3 at hf9 ⊢
      have fr3 : ∀ k, M3 211 k = M2 211 k := fun k => hf9 211 k rfl
      refine Ev.iadd (q := 81) dX12_goes_80 rfl ?_
      refine pI (q := 84) dX12_goes_81 gfX12_197 k211 rfl rfl ?_
      obtain ⟨M4, hM4⟩ : ∃ M4, M4 = up M3 211 20 (w32 (cc + stopV (m 212) l f (pop s))) := ⟨_, rfl⟩
      rw [← hM4]
      have j21 : M4 211 21 = s := by rw [hM4, up_k _ _ (by decide), fr3]; exact i21
      refine Ev.aload_n (q := 85) dX12_goes_84 rfl rfl ?_
      refine Ev.dup (q := 86) dX12_goes_85 (fun z => by cases z) rfl ?_
      refine gI (q := 89) dX12_goes_86 gfX12_200 k211 rfl rfl ?_
      rw [j21]
      refine Ev.iconst (q := 90) dX12_goes_89 ki_1 rfl ?_
      refine Ev.iload_n (q := 91) dX12_goes_90 rfl rfl ?_
      refine Ev.ishl (q := 92) dX12_goes_91 rfl ?_
      refine Ev.iconst (q := 93) dX12_goes_92 ki_m1 rfl ?_
      refine Ev.ixor (q := 94) dX12_goes_93 rfl ?_
      refine Ev.iand (q := 95) dX12_goes_94 rfl ?_
      rw [ishl_1 f (by omega), iandn_n (by omega)]
      refine pI (q := 98) dX12_goes_95 gfX12_200 k211 rfl rfl ?_
      refine Ev.aload_n (q := 99) dX12_goes_98 rfl rfl ?_
      refine Ev.iload_n (q := 100) dX12_goes_99 rfl rfl ?_
      refine pI (q := 103) dX12_goes_100 gfX12_194 k211 rfl rfl ?_
      refine Ev.iload_n (q := 104) dX12_goes_103 rfl rfl ?_
      refine rI dX12_goes_104 rfl ?_
      refine ⟨fun hn => ?_, fun t' ht => ?_⟩
      · unfold tgo at hn
        simp only [hf] at hn
        cases hn
      · unfold tgo at ht
        simp only [hf, ← hcc] at ht
        cases ht
        have fr4 : Fr sT m M4 := by
          rw [hM4]
          refine Fr.up ?_ rfl
          refine Fr.tr ?_ (hf9.mono (fun a k q => by unfold sT at q; unfold s1617; simp at q ⊢; exact ⟨q.1.2, q.2⟩))
          rw [hM2, hM1]
          exact ((Fr.rf _ _).up rfl).up rfl
        refine ⟨rfl, ⟨⟨?_, ?_, ?_, ?_, ?_⟩, ?_⟩, (fr4.up rfl).up rfl⟩ <;> simp (disch := omega) only [up_k, up_eq] <;> rw [hM4] <;> simp (disch := omega) only [up_k, up_eq]
        · rw [fr3]; exact i18
        · rw [fr3, hM2, up_k _ _ (by decide), hM1, up_eq]
          simp
        · rw [fr3]; exact i22
    · skip
      refine Ev.iconst (q := 22) dX12_goes_21 ki_1 rfl ?_
      refine Ev.goto (q := 26) dX12_goes_22 (by decide) ?_
      rw [show (1 : Int) = (if h < f then 1 else 0) by rw [if_pos (by omega)]]
      refine pZ (q := 29) dX12_goes_26 gfX12_203 k211 (by split <;> simp) rfl rfl ?_
      obtain ⟨M1, hM1⟩ : ∃ M1, M1 = up m 211 23 (if h < f then 1 else 0) := ⟨_, rfl⟩
      rw [← hM1]
      have g12 : M1 212 = m 212 := by rw [hM1]; exact up_na _ _ (by decide)
      have f18 : M1 211 18 = l := by rw [hM1, up_k _ _ (by decide)]; exact e18
      have f19 : M1 211 19 = h := by rw [hM1, up_k _ _ (by decide)]; exact e19
      have f20 : M1 211 20 = tt := by rw [hM1, up_k _ _ (by decide)]; exact e20
      have f21 : M1 211 21 = s := by rw [hM1, up_k _ _ (by decide)]; exact e21
      refine Ev.aload_n (q := 30) dX12_goes_29 rfl rfl ?_
      refine Ev.aload_n (q := 31) dX12_goes_30 rfl rfl ?_
      refine gI (q := 34) dX12_goes_31 gfX12_197 k211 rfl rfl ?_
      rw [f20]
      refine Ev.aload_n (q := 35) dX12_goes_34 rfl rfl ?_
      refine gR (q := 38) dX12_goes_35 gfX12_13 k211 r211_1 rfl rfl ?_
      refine Ev.bipush (q := 40) dX12_goes_38 kb_22 rfl ?_
      refine Ev.aload_n (q := 41) dX12_goes_40 rfl rfl ?_
      refine gI (q := 44) dX12_goes_41 gfX12_191 k211 rfl rfl ?_
      rw [f18]
      refine Ev.iadd (q := 45) dX12_goes_44 rfl ?_
      refine aI (q := 46) (k := 22 + l) dX12_goes_45 k212 (by first | rfl | omega | (simp (disch := omega) only [w32_of]; omega)) (by omega) rfl ?_
      rw [g12]
      refine Ev.aload_n (q := 47) dX12_goes_46 rfl rfl ?_
      refine gI (q := 50) dX12_goes_47 gfX12_194 k211 rfl rfl ?_
      rw [f19]
      refine Ev.iload_n (q := 51) dX12_goes_50 rfl rfl ?_
      refine cS2i (q := 54) (d' := d + 2) dX12_goes_51 mlX12_218 moX12_far msX12_far rfl rfl (Nat.le_refl _) rfl rfl rfl (p_X12_far _ _) (fun r7 m7 e7 => ?_)
      obtain ⟨rfl, e7⟩ := e7
      obtain rfl := e7.symm
      rw [far_dst h f (by omega) (by omega)]
      refine Ev.imul (q := 55) dX12_goes_54 rfl ?_
      refine Ev.iadd (q := 56) dX12_goes_55 rfl ?_
      refine pI (q := 59) dX12_goes_56 gfX12_221 k211 rfl rfl ?_
      obtain ⟨cc, hcc⟩ : ∃ cc, cc = w32 (tt + w32 (m 212 (22 + l) * (dst h f : Int))) := ⟨_, rfl⟩
      rw [← hcc]
      obtain ⟨M2, hM2⟩ : ∃ M2, M2 = up M1 211 22 cc := ⟨_, rfl⟩
      rw [← hM2]
      have g22 : M2 212 = m 212 := by rw [hM2, up_na _ _ (by decide)]; exact g12
      have i18 : M2 211 18 = l := by rw [hM2, up_k _ _ (by decide)]; exact f18
      have i21 : M2 211 21 = s := by rw [hM2, up_k _ _ (by decide)]; exact f21
      have i22 : M2 211 22 = cc := by rw [hM2]; exact up_eq _ _ _ _
      refine Ev.aload_n (q := 60) dX12_goes_59 rfl rfl ?_
      refine Ev.aload_n (q := 61) dX12_goes_60 rfl rfl ?_
      refine gI (q := 64) dX12_goes_61 gfX12_221 k211 rfl rfl ?_
      rw [i22]
      refine Ev.aload_n (q := 65) dX12_goes_64 rfl rfl ?_
      refine Ev.aload_n (q := 66) dX12_goes_65 rfl rfl ?_
      refine gI (q := 69) dX12_goes_66 gfX12_191 k211 rfl rfl ?_
      rw [i18]
      refine Ev.iload_n (q := 70) dX12_goes_69 rfl rfl ?_
      refine Ev.aload_n (q := 71) dX12_goes_70 rfl rfl ?_
      refine gI (q := 74) dX12_goes_71 gfX12_200 k211 rfl rfl ?_
      rw [i21]
      refine cS1i (q := 77) (d' := d + 2) dX12_goes_74 mlX12_224 moX12_bitsOf msX12_bitsOf rfl rfl (Nat.le_refl _) rfl rfl rfl (p_X12_bitsOf s hs4) (fun r8 m8 e8 => ?_)
      obtain ⟨rfl, e8⟩ := e8
      obtain rfl := e8.symm
      refine cV3i (q := 80) (d' := d + 2) dX12_goes_77 mlX12_227 moX12_stopOf mvX12_stopOf k211 rfl rfl rfl (Nat.le_refl _) rfl rfl rfl (p_X12_stopOf l f (pop s) hl (by omega) (by have := pop_le s; omega) (by rw [g22]; exact hlaw)) (fun r9 m9 e9 => ?_)
      obtain ⟨rfl, hf9⟩ := e9
      rw [g22]
      generalize hM3 : m9 = M3 at hf9 ⊢
      have fr3 : ∀ k, M3 211 k = M2 211 k := fun k => hf9 211 k rfl
      refine Ev.iadd (q := 81) dX12_goes_80 rfl ?_
      refine pI (q := 84) dX12_goes_81 gfX12_197 k211 rfl rfl ?_
      obtain ⟨M4, hM4⟩ : ∃ M4, M4 = up M3 211 20 (w32 (cc + stopV (m 212) l f (pop s))) := ⟨_, rfl⟩
      rw [← hM4]
      have j21 : M4 211 21 = s := by rw [hM4, up_k _ _ (by decide), fr3]; exact i21
      refine Ev.aload_n (q := 85) dX12_goes_84 rfl rfl ?_
      refine Ev.dup (q := 86) dX12_goes_85 (fun z => by cases z) rfl ?_
      refine gI (q := 89) dX12_goes_86 gfX12_200 k211 rfl rfl ?_
      rw [j21]
      refine Ev.iconst (q := 90) dX12_goes_89 ki_1 rfl ?_
      refine Ev.iload_n (q := 91) dX12_goes_90 rfl rfl ?_
      refine Ev.ishl (q := 92) dX12_goes_91 rfl ?_
      refine Ev.iconst (q := 93) dX12_goes_92 ki_m1 rfl ?_
      refine Ev.ixor (q := 94) dX12_goes_93 rfl ?_
      refine Ev.iand (q := 95) dX12_goes_94 rfl ?_
      rw [ishl_1 f (by omega), iandn_n (by omega)]
      refine pI (q := 98) dX12_goes_95 gfX12_200 k211 rfl rfl ?_
      refine Ev.aload_n (q := 99) dX12_goes_98 rfl rfl ?_
      refine Ev.iload_n (q := 100) dX12_goes_99 rfl rfl ?_
      refine pI (q := 103) dX12_goes_100 gfX12_194 k211 rfl rfl ?_
      refine Ev.iload_n (q := 104) dX12_goes_103 rfl rfl ?_
      refine rI dX12_goes_104 rfl ?_
      refine ⟨fun hn => ?_, fun t' ht => ?_⟩
      · unfold tgo at hn
        simp only [hf] at hn
        cases hn
      · unfold tgo at ht
        simp only [hf, ← hcc] at ht
        cases ht
        have fr4 : Fr sT m M4 := by
          rw [hM4]
          refine Fr.up ?_ rfl
          refine Fr.tr ?_ (hf9.mono (fun a k q => by unfold sT at q; unfold s1617; simp at q ⊢; exact ⟨q.1.2, q.2⟩))
          rw [hM2, hM1]
          exact ((Fr.rf _ _).up rfl).up rfl
        refine ⟨rfl, ⟨⟨?_, ?_, ?_, ?_, ?_⟩, ?_⟩, (fr4.up rfl).up rfl⟩ <;> simp (disch := omega) only [up_k, up_eq] <;> rw [hM4] <;> simp (disch := omega) only [up_k, up_eq]
        · rw [fr3]; exact i18
        · rw [fr3, hM2, up_k _ _ (by decide), hM1, up_eq]
          simp
        · rw [fr3]; exact i22
  · skip
    have hn : nxt s h u = none := by
      cases hq : nxt s h u with
      | none => rfl
      | some f => rw [hq] at h2; simp [optI] at h2
    refine Ev.iconst (q := 11) dX12_goes_10 ki_m1 rfl ?_
    refine rI dX12_goes_11 rfl ?_
    refine ⟨fun _ => ⟨rfl, rfl⟩, fun t' ht => ?_⟩
    unfold tgo at ht
    simp only [hn] at ht
    cases ht
