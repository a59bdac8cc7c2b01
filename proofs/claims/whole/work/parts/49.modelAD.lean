/-! ===== the reference: public deeds ===== -/
def sD (a k : Nat) : Bool := sQ a k || a == 212 || (a == 211 && (k == 25 || k == 26))
theorem sD_Q {a k : Nat} (h : sD a k = false) : sQ a k = false := by unfold sD at h; simp at h; exact h.1.1
theorem sD_218 {a k : Nat} (h : sD a k = false) : s218 a k = false := sQ_218 (sD_Q h)
theorem sD_212 {a k : Nat} (h : sD a k = false) : s212 a k = false := by unfold sD at h; unfold s212; simp at h ⊢; exact h.1.2
theorem sD_Rd {a k : Nat} (h : sD a k = false) : sRd a k = false := by
  unfold sRd
  rw [sQ_T (sD_Q h)]
  unfold sD at h; simp at h ⊢; exact h.1.2
theorem sD_Te {a k : Nat} (h : sD a k = false) : sTe a k = false := by
  unfold sTe
  rw [sD_Rd h]
  unfold sD at h; simp at h ⊢
  intro h1 h2
  exact (h.2 h1).1 h2
def wasG (g : Nat → Int) : Nat → Int := fun k => g (60 + k)
theorem notG_congr {g w w' : Nat → Int} (h : ∀ k, k < 36 → w k = w' k) : notG g w = notG g w' := by
  funext j
  unfold notG
  by_cases h1 : j = 96
  · rw [if_pos h1, if_pos h1]
  · rw [if_neg h1, if_neg h1]
    by_cases h2 : 97 + 36 * (if g 96 = 10 then 9 else (g 96).toNat) ≤ j ∧ j < 97 + 36 * (if g 96 = 10 then 9 else (g 96).toNat) + 36
    · rw [if_pos h2, if_pos h2]
      exact h _ (by omega)
    · rw [if_neg h2, if_neg h2]
theorem notG_lo {g w : Nat → Int} {j : Nat} (h : j < 96) : notG g w j = g j := by
  unfold notG
  rw [if_neg (by omega), if_neg (by omega), if_neg (fun q => by omega)]
theorem notG_hi {g w : Nat → Int} {j : Nat} (h96 : g 96 ≤ 10) (h : 457 ≤ j) : notG g w j = g j := by
  unfold notG
  rw [if_neg (by omega), if_neg (by split <;> omega), if_neg (fun q => by omega)]
theorem HI_not {g w : Nat → Int} (h : HI g) (h96 : g 96 ≤ 10) : HI (notG g w) := HI_congr (fun j hj => notG_lo hj) (fun j hj => notG_hi h96 (by omega)) h
set_option maxRecDepth 4000 in
theorem p_X12_press {Γ : Gm} {d : Nat} {m : Mem} (l f : Int) (hI : HI (m 212)) (h96 : 0 ≤ m 212 96 ∧ m 212 96 ≤ 10) : Ci Γ (d + 3) MX12_press [rv 211, iv l, iv f] m (fun r m' => (whyP (m 212) l f false = 0 → r = (pop (litV (m 212) l.toNat ||| 2 ^ f.toNat) : Int) ∧ m' 212 = notG (doD (m 212) 0 l.toNat f.toNat) (wasG (m 212)) ∧ Fr sD m m') ∧ (¬ whyP (m 212) l f false = 0 → r = w32 (-10 - whyP (m 212) l f false) ∧ Fr sQ m m')) := by
  refine Ci.of moX12_press rfl rfl (fun hA hM => ?_)
  show Em Γ (d + 3) MX12_press _ 0 [rv 211, iv l, iv f, uv] [] m
  refine Ev.aload_n (q := 1) dX12_press_0 rfl rfl ?_
  refine Ev.iconst (q := 2) dX12_press_1 ki_0 rfl ?_
  refine pI (q := 5) dX12_press_2 gfX12_1 k211 rfl rfl ?_
  obtain ⟨M0, hM0⟩ : ∃ M0, M0 = up m 211 0 0 := ⟨_, rfl⟩
  rw [← hM0]
  have hF0 : Fr sQ m M0 := by rw [hM0]; exact (Fr.rf _ _).up rfl
  have g0 : M0 212 = m 212 := hF0.row 212 (fun _ => rfl)
  rw [← g0] at hI ⊢
  have hF12 := hI.1
  have hL3 := hI.2.1
  have hP8 := hI.2.2.1
  rw [← g0] at h96
  clear hM0
  refine Ev.aload_n (q := 6) dX12_press_5 rfl rfl ?_
  refine Ev.iload_n (q := 7) dX12_press_6 rfl rfl ?_
  refine Ev.i2l (q := 8) dX12_press_7 rfl ?_
  refine Ev.iload_n (q := 9) dX12_press_8 rfl rfl ?_
  refine Ev.i2l (q := 10) dX12_press_9 rfl ?_
  refine Ev.iconst (q := 11) dX12_press_10 ki_0 rfl ?_
  refine cV3i (q := 14) (d' := d + 2) dX12_press_11 mlX12_254 moX12_whyPress mvX12_whyPress k211 rfl rfl rfl (Nat.le_refl _) rfl rfl rfl (p_X12_whyPress_false l f hI) (fun r1 m1 e1 => ?_)
  obtain ⟨rfl, e1⟩ := e1
  obtain rfl := e1.symm
  refine istore_n_3 (q := 15) dX12_press_14 rfl rfl rfl ?_
  refine Ev.iload_n (q := 16) dX12_press_15 rfl rfl ?_
  refine Ev.if_eq (tgt := 24) (q := 19) dX12_press_16 (by decide) rfl (fun h2 => ?_) (fun h2 => ?_)
  · skip
    have hw : whyP (M0 212) l f false = 0 := h2
    have q := whyP_0f hw
    obtain ⟨ln, rfl⟩ : ∃ ln : Nat, l = ln := ⟨l.toNat, by omega⟩
    obtain ⟨fn, rfl⟩ : ∃ fn : Nat, f = fn := ⟨f.toNat, by omega⟩
    simp only [Int.toNat_natCast] at q
    have hlift := hI.lift (l := ln) (by omega)
    have e66 : M0 212 (66 + ln) = ((litV (M0 212) ln : Nat) : Int) := by unfold litV; have := hlift.2.1.1; omega
    have h12 := (hI.litOk (l := ln) (by omega)).lt hI
    refine Ev.aload_n (q := 25) dX12_press_24 rfl rfl ?_
    refine cV0v (q := 28) (d' := d + 2) dX12_press_25 mlX12_258 moX12_keeps mvX12_keeps k211 rfl rfl rfl (Nat.le_refl _) rfl rfl rfl (p_X12_keeps) (fun r3 m3 e3 => ?_)
    obtain ⟨hk36, hfrk⟩ := e3
    have hF1 : Fr sD m m3 := (hF0.mono (fun a k q => sD_Q q)).tr (hfrk.mono (fun a k q => sD_218 q))
    have g1 : m3 212 = M0 212 := hfrk.row 212 (fun _ => rfl)
    generalize m3 = M1 at *
    refine Ev.aload_n (q := 29) dX12_press_28 rfl rfl ?_
    refine gR (q := 32) dX12_press_29 gfX12_13 k211 r211_1 rfl rfl ?_
    refine Ev.bipush (q := 34) dX12_press_32 kb_66 rfl ?_
    refine Ev.iload_n (q := 35) dX12_press_34 rfl rfl ?_
    refine Ev.iadd (q := 36) dX12_press_35 rfl ?_
    refine Ev.dup2 (q := 37) dX12_press_36 (fun z => by cases z) (fun z => by cases z) rfl ?_
    refine aI (q := 38) (k := 66 + ln) dX12_press_37 k212 (by first | rfl | omega | (simp (disch := omega) only [w32_of]; omega)) (by omega) rfl ?_
    rw [g1, e66]
    refine Ev.iconst (q := 39) dX12_press_38 ki_1 rfl ?_
    refine Ev.iload_n (q := 40) dX12_press_39 rfl rfl ?_
    refine Ev.ishl (q := 41) dX12_press_40 rfl ?_
    rw [ishl_1 fn (by omega)]
    refine Ev.ior (q := 42) dX12_press_41 rfl ?_
    rw [ior_n (k := 12) h12 (two_lt (by omega)) (by decide)]
    refine sI (q := 43) (k := 66 + ln) dX12_press_42 k212 (by first | rfl | omega | (simp (disch := omega) only [w32_of]; omega)) (by omega) rfl ?_
    obtain ⟨M2, hM2⟩ : ∃ M2, M2 = up M1 212 (66 + ln) ((litV (M0 212) ln ||| 2 ^ fn : Nat) : Int) := ⟨_, rfl⟩
    rw [← hM2]
    have hF2 : Fr sD m M2 := by rw [hM2]; exact hF1.up rfl
    have g2 : M2 212 = doD (M0 212) 0 ln fn := by rw [hM2, up_row, g1]; rfl
    have f18 : M2 218 = M1 218 := by rw [hM2]; exact up_na _ _ (by decide)
    have hs9 : M2 212 96 = M0 212 96 := by rw [hM2, up_k _ _ (by omega), g1]
    refine Ev.aload_n (q := 44) dX12_press_43 rfl rfl ?_
    refine cV0v (q := 47) (d' := d + 2) dX12_press_44 mlX12_261 moX12_notes mvX12_notes k211 rfl rfl rfl (Nat.le_refl _) rfl rfl rfl (p_X12_notes (by rw [hs9]; exact h96)) (fun r4 m4 e4 => ?_)
    obtain ⟨eg, hfrn⟩ := e4
    have hF3 := hF2.tr (hfrn.mono (fun a k q => sD_212 q))
    generalize m4 = M3 at *
    rw [g2, notG_congr (w' := wasG (M0 212)) (fun k hk => by rw [f18]; exact hk36 k hk)] at eg
    refine Ev.aload_n (q := 48) dX12_press_47 rfl rfl ?_
    refine gR (q := 51) dX12_press_48 gfX12_13 k211 r211_1 rfl rfl ?_
    refine Ev.bipush (q := 53) dX12_press_51 kb_66 rfl ?_
    refine Ev.iload_n (q := 54) dX12_press_53 rfl rfl ?_
    refine Ev.iadd (q := 55) dX12_press_54 rfl ?_
    refine aI (q := 56) (k := 66 + ln) dX12_press_55 k212 (by first | rfl | omega | (simp (disch := omega) only [w32_of]; omega)) (by omega) rfl ?_
    rw [eg, notG_lo (by omega), show doD (M0 212) 0 ln fn (66 + ln) = ((litV (M0 212) ln ||| 2 ^ fn : Nat) : Int) from upg_eq _ _ _]
    refine cS1i (q := 59) (d' := d + 2) dX12_press_56 mlX12_224 moX12_bitsOf msX12_bitsOf rfl rfl (Nat.le_refl _) rfl rfl rfl (p_X12_bitsOf (litV (M0 212) ln ||| 2 ^ fn) (Nat.or_lt_two_pow (n := 12) h12 (two_lt (by omega)))) (fun r5 m5 e5 => ?_)
    obtain ⟨rfl, e5⟩ := e5
    obtain rfl := e5.symm
    refine rI dX12_press_59 rfl ?_
    refine ⟨fun _ => ⟨?_, ?_, hF3⟩, fun z => absurd hw z⟩
    · simp only [Int.toNat_natCast]
    · simp only [Int.toNat_natCast]
      exact eg
  · skip
    have hw : ¬ whyP (M0 212) l f false = 0 := h2
    refine Ev.bipush (q := 21) dX12_press_19 kb_m10 rfl ?_
    refine Ev.iload_n (q := 22) dX12_press_21 rfl rfl ?_
    refine Ev.isub (q := 23) dX12_press_22 rfl ?_
    refine rI dX12_press_23 rfl ?_
    exact ⟨fun z => absurd z hw, fun _ => ⟨rfl, hF0⟩⟩
set_option maxRecDepth 4000 in
theorem p_X12_pressOff {Γ : Gm} {d : Nat} {m : Mem} (l f : Int) (hI : HI (m 212)) (h96 : 0 ≤ m 212 96 ∧ m 212 96 ≤ 10) : Ci Γ (d + 3) MX12_pressOff [rv 211, iv l, iv f] m (fun r m' => (whyP (m 212) l f true = 0 → r = (pop (dif (litV (m 212) l.toNat) (2 ^ f.toNat)) : Int) ∧ m' 212 = notG (doD (m 212) 1 l.toNat f.toNat) (wasG (m 212)) ∧ Fr sD m m') ∧ (¬ whyP (m 212) l f true = 0 → r = w32 (-10 - whyP (m 212) l f true) ∧ Fr sQ m m')) := by
  refine Ci.of moX12_pressOff rfl rfl (fun hA hM => ?_)
  show Em Γ (d + 3) MX12_pressOff _ 0 [rv 211, iv l, iv f, uv] [] m
  refine Ev.aload_n (q := 1) dX12_pressOff_0 rfl rfl ?_
  refine Ev.iconst (q := 2) dX12_pressOff_1 ki_0 rfl ?_
  refine pI (q := 5) dX12_pressOff_2 gfX12_1 k211 rfl rfl ?_
  obtain ⟨M0, hM0⟩ : ∃ M0, M0 = up m 211 0 0 := ⟨_, rfl⟩
  rw [← hM0]
  have hF0 : Fr sQ m M0 := by rw [hM0]; exact (Fr.rf _ _).up rfl
  have g0 : M0 212 = m 212 := hF0.row 212 (fun _ => rfl)
  rw [← g0] at hI ⊢
  have hF12 := hI.1
  have hL3 := hI.2.1
  have hP8 := hI.2.2.1
  rw [← g0] at h96
  clear hM0
  refine Ev.aload_n (q := 6) dX12_pressOff_5 rfl rfl ?_
  refine Ev.iload_n (q := 7) dX12_pressOff_6 rfl rfl ?_
  refine Ev.i2l (q := 8) dX12_pressOff_7 rfl ?_
  refine Ev.iload_n (q := 9) dX12_pressOff_8 rfl rfl ?_
  refine Ev.i2l (q := 10) dX12_pressOff_9 rfl ?_
  refine Ev.iconst (q := 11) dX12_pressOff_10 ki_1 rfl ?_
  refine cV3i (q := 14) (d' := d + 2) dX12_pressOff_11 mlX12_254 moX12_whyPress mvX12_whyPress k211 rfl rfl rfl (Nat.le_refl _) rfl rfl rfl (p_X12_whyPress_true l f hI) (fun r1 m1 e1 => ?_)
  obtain ⟨rfl, e1⟩ := e1
  obtain rfl := e1.symm
  refine istore_n_3 (q := 15) dX12_pressOff_14 rfl rfl rfl ?_
  refine Ev.iload_n (q := 16) dX12_pressOff_15 rfl rfl ?_
  refine Ev.if_eq (tgt := 24) (q := 19) dX12_pressOff_16 (by decide) rfl (fun h2 => ?_) (fun h2 => ?_)
  · skip
    have hw : whyP (M0 212) l f true = 0 := h2
    have q := whyP_0t hw
    obtain ⟨ln, rfl⟩ : ∃ ln : Nat, l = ln := ⟨l.toNat, by omega⟩
    obtain ⟨fn, rfl⟩ : ∃ fn : Nat, f = fn := ⟨f.toNat, by omega⟩
    simp only [Int.toNat_natCast] at q
    have hlift := hI.lift (l := ln) (by omega)
    have e66 : M0 212 (66 + ln) = ((litV (M0 212) ln : Nat) : Int) := by unfold litV; have := hlift.2.1.1; omega
    have h12 := (hI.litOk (l := ln) (by omega)).lt hI
    refine Ev.aload_n (q := 25) dX12_pressOff_24 rfl rfl ?_
    refine cV0v (q := 28) (d' := d + 2) dX12_pressOff_25 mlX12_258 moX12_keeps mvX12_keeps k211 rfl rfl rfl (Nat.le_refl _) rfl rfl rfl (p_X12_keeps) (fun r3 m3 e3 => ?_)
    obtain ⟨hk36, hfrk⟩ := e3
    have hF1 : Fr sD m m3 := (hF0.mono (fun a k q => sD_Q q)).tr (hfrk.mono (fun a k q => sD_218 q))
    have g1 : m3 212 = M0 212 := hfrk.row 212 (fun _ => rfl)
    generalize m3 = M1 at *
    refine Ev.aload_n (q := 29) dX12_pressOff_28 rfl rfl ?_
    refine gR (q := 32) dX12_pressOff_29 gfX12_13 k211 r211_1 rfl rfl ?_
    refine Ev.bipush (q := 34) dX12_pressOff_32 kb_66 rfl ?_
    refine Ev.iload_n (q := 35) dX12_pressOff_34 rfl rfl ?_
    refine Ev.iadd (q := 36) dX12_pressOff_35 rfl ?_
    refine Ev.dup2 (q := 37) dX12_pressOff_36 (fun z => by cases z) (fun z => by cases z) rfl ?_
    refine aI (q := 38) (k := 66 + ln) dX12_pressOff_37 k212 (by first | rfl | omega | (simp (disch := omega) only [w32_of]; omega)) (by omega) rfl ?_
    rw [g1, e66]
    refine Ev.iconst (q := 39) dX12_pressOff_38 ki_1 rfl ?_
    refine Ev.iload_n (q := 40) dX12_pressOff_39 rfl rfl ?_
    refine Ev.ishl (q := 41) dX12_pressOff_40 rfl ?_
    rw [ishl_1 fn (by omega)]
    refine Ev.iconst (q := 42) dX12_pressOff_41 ki_m1 rfl ?_
    refine Ev.ixor (q := 43) dX12_pressOff_42 rfl ?_
    refine Ev.iand (q := 44) dX12_pressOff_43 rfl ?_
    rw [iandn_n (by omega)]
    refine sI (q := 45) (k := 66 + ln) dX12_pressOff_44 k212 (by first | rfl | omega | (simp (disch := omega) only [w32_of]; omega)) (by omega) rfl ?_
    obtain ⟨M2, hM2⟩ : ∃ M2, M2 = up M1 212 (66 + ln) ((dif (litV (M0 212) ln) (2 ^ fn) : Nat) : Int) := ⟨_, rfl⟩
    rw [← hM2]
    have hF2 : Fr sD m M2 := by rw [hM2]; exact hF1.up rfl
    have g2 : M2 212 = doD (M0 212) 1 ln fn := by rw [hM2, up_row, g1]; rfl
    have f18 : M2 218 = M1 218 := by rw [hM2]; exact up_na _ _ (by decide)
    have hs9 : M2 212 96 = M0 212 96 := by rw [hM2, up_k _ _ (by omega), g1]
    refine Ev.aload_n (q := 46) dX12_pressOff_45 rfl rfl ?_
    refine cV0v (q := 49) (d' := d + 2) dX12_pressOff_46 mlX12_261 moX12_notes mvX12_notes k211 rfl rfl rfl (Nat.le_refl _) rfl rfl rfl (p_X12_notes (by rw [hs9]; exact h96)) (fun r4 m4 e4 => ?_)
    obtain ⟨eg, hfrn⟩ := e4
    have hF3 := hF2.tr (hfrn.mono (fun a k q => sD_212 q))
    generalize m4 = M3 at *
    rw [g2, notG_congr (w' := wasG (M0 212)) (fun k hk => by rw [f18]; exact hk36 k hk)] at eg
    refine Ev.aload_n (q := 50) dX12_pressOff_49 rfl rfl ?_
    refine gR (q := 53) dX12_pressOff_50 gfX12_13 k211 r211_1 rfl rfl ?_
    refine Ev.bipush (q := 55) dX12_pressOff_53 kb_66 rfl ?_
    refine Ev.iload_n (q := 56) dX12_pressOff_55 rfl rfl ?_
    refine Ev.iadd (q := 57) dX12_pressOff_56 rfl ?_
    refine aI (q := 58) (k := 66 + ln) dX12_pressOff_57 k212 (by first | rfl | omega | (simp (disch := omega) only [w32_of]; omega)) (by omega) rfl ?_
    rw [eg, notG_lo (by omega), show doD (M0 212) 1 ln fn (66 + ln) = ((dif (litV (M0 212) ln) (2 ^ fn) : Nat) : Int) from upg_eq _ _ _]
    refine cS1i (q := 61) (d' := d + 2) dX12_pressOff_58 mlX12_224 moX12_bitsOf msX12_bitsOf rfl rfl (Nat.le_refl _) rfl rfl rfl (p_X12_bitsOf (dif (litV (M0 212) ln) (2 ^ fn)) (Nat.lt_of_le_of_lt (dif_le _ _) h12)) (fun r5 m5 e5 => ?_)
    obtain ⟨rfl, e5⟩ := e5
    obtain rfl := e5.symm
    refine rI dX12_pressOff_61 rfl ?_
    refine ⟨fun _ => ⟨?_, ?_, hF3⟩, fun z => absurd hw z⟩
    · simp only [Int.toNat_natCast]
    · simp only [Int.toNat_natCast]
      exact eg
  · skip
    have hw : ¬ whyP (M0 212) l f true = 0 := h2
    refine Ev.bipush (q := 21) dX12_pressOff_19 kb_m10 rfl ?_
    refine Ev.iload_n (q := 22) dX12_pressOff_21 rfl rfl ?_
    refine Ev.isub (q := 23) dX12_pressOff_22 rfl ?_
    refine rI dX12_pressOff_23 rfl ?_
    exact ⟨fun z => absurd z hw, fun _ => ⟨rfl, hF0⟩⟩
set_option maxRecDepth 4000 in
theorem p_X12_rides {Γ : Gm} {d : Nat} {m : Mem} (l : Int) (hI : HI (m 212)) (h96 : 0 ≤ m 212 96 ∧ m 212 96 ≤ 10) : Ci Γ (d + 5) MX12_rides [rv 211, iv l] m (fun r m' => (whyR (m 212) l = 0 → r = ridG (m 212) l.toNat (60 + l.toNat) ∧ m' 212 = notG (ridG (m 212) l.toNat) (wasG (m 212)) ∧ Fr sD m m') ∧ (¬ whyR (m 212) l = 0 → r = w32 (-10 - whyR (m 212) l) ∧ Fr sQ m m')) := by
  refine Ci.of moX12_rides rfl rfl (fun hA hM => ?_)
  show Em Γ (d + 5) MX12_rides _ 0 [rv 211, iv l, uv] [] m
  refine Ev.aload_n (q := 1) dX12_rides_0 rfl rfl ?_
  refine Ev.iconst (q := 2) dX12_rides_1 ki_0 rfl ?_
  refine pI (q := 5) dX12_rides_2 gfX12_1 k211 rfl rfl ?_
  obtain ⟨M0, hM0⟩ : ∃ M0, M0 = up m 211 0 0 := ⟨_, rfl⟩
  rw [← hM0]
  have hF0 : Fr sQ m M0 := by rw [hM0]; exact (Fr.rf _ _).up rfl
  have g0 : M0 212 = m 212 := hF0.row 212 (fun _ => rfl)
  rw [← g0] at hI ⊢
  have hF12 := hI.1
  have hL3 := hI.2.1
  have hP8 := hI.2.2.1
  rw [← g0] at h96
  clear hM0
  refine Ev.aload_n (q := 6) dX12_rides_5 rfl rfl ?_
  refine Ev.iload_n (q := 7) dX12_rides_6 rfl rfl ?_
  refine Ev.i2l (q := 8) dX12_rides_7 rfl ?_
  refine cV1i (q := 11) (d' := d + 4) dX12_rides_8 mlX12_264 moX12_whyRide mvX12_whyRide k211 rfl rfl rfl (Nat.le_refl _) rfl rfl rfl (p_X12_whyRide l hI) (fun r1 m1 e1 => ?_)
  obtain ⟨rfl, e1⟩ := e1
  obtain rfl := e1.symm
  refine istore_n_2 (q := 12) dX12_rides_11 rfl rfl rfl ?_
  refine Ev.iload_n (q := 13) dX12_rides_12 rfl rfl ?_
  refine Ev.if_eq (tgt := 21) (q := 16) dX12_rides_13 (by decide) rfl (fun h2 => ?_) (fun h2 => ?_)
  · skip
    have hw : whyR (M0 212) l = 0 := h2
    have q := whyR_0 hw
    obtain ⟨ln, rfl⟩ : ∃ ln : Nat, l = ln := ⟨l.toNat, by omega⟩
    simp only [Int.toNat_natCast] at q
    obtain ⟨t', ht'⟩ := tgo_lit hI q.1.2 q.2
    have hrid : ridN (M0 212) ln t' (M0 212 3).toNat = ridG (M0 212) ln := by unfold ridG; rw [ht']
    refine Ev.aload_n (q := 22) dX12_rides_21 rfl rfl ?_
    refine cV0v (q := 25) (d' := d + 4) dX12_rides_22 mlX12_258 moX12_keeps mvX12_keeps k211 rfl rfl rfl (Nat.le_refl _) rfl rfl rfl (p_X12_keeps) (fun r3 m3 e3 => ?_)
    obtain ⟨hk36, hfrk⟩ := e3
    have hF1 : Fr sD m m3 := (hF0.mono (fun a k q => sD_Q q)).tr (hfrk.mono (fun a k q => sD_218 q))
    have g1 : m3 212 = M0 212 := hfrk.row 212 (fun _ => rfl)
    generalize m3 = M1 at *
    refine Ev.aload_n (q := 26) dX12_rides_25 rfl rfl ?_
    refine Ev.iload_n (q := 27) dX12_rides_26 rfl rfl ?_
    refine cV1v (q := 30) (d' := d + 4) dX12_rides_27 mlX12_268 moX12_ridesOne mvX12_ridesOne k211 rfl rfl rfl (Nat.le_refl _) rfl rfl rfl (p_X12_ridesOne ln t' (by rw [g1]; exact hI) (by rw [g1]; exact q.1.2) (by rw [g1]; exact ht')) (fun r4 m4 e4 => ?_)
    obtain ⟨g2, e19, hfr2⟩ := e4
    rw [g1, hrid] at g2
    have hF2 := hF1.tr (hfr2.mono (fun a k q => sD_Rd q))
    have f18 : m4 218 = M1 218 := hfr2.row 218 (fun _ => rfl)
    generalize m4 = M2 at *
    have hs9 : M2 212 96 = M0 212 96 := by rw [g2, ← hrid]; exact ridN_hi (by omega) (by omega) (by omega)
    refine Ev.aload_n (q := 31) dX12_rides_30 rfl rfl ?_
    refine cV0v (q := 34) (d' := d + 4) dX12_rides_31 mlX12_261 moX12_notes mvX12_notes k211 rfl rfl rfl (Nat.le_refl _) rfl rfl rfl (p_X12_notes (by rw [hs9]; exact h96)) (fun r5 m5 e5 => ?_)
    obtain ⟨eg, hfrn⟩ := e5
    have hF3 := hF2.tr (hfrn.mono (fun a k q => sD_212 q))
    generalize m5 = M3 at *
    rw [g2, notG_congr (w' := wasG (M0 212)) (fun k hk => by rw [f18]; exact hk36 k hk)] at eg
    refine Ev.aload_n (q := 35) dX12_rides_34 rfl rfl ?_
    refine gI (q := 38) dX12_rides_35 gfX12_194 k211 rfl rfl ?_
    refine rI dX12_rides_38 rfl ?_
    refine ⟨fun _ => ⟨?_, ?_, hF3⟩, fun z => absurd hw z⟩
    · rw [hfrn 211 19 rfl, e19]
      simp only [Int.toNat_natCast]
      rw [← hrid]
      unfold ridN
      rw [if_pos rfl]
    · simp only [Int.toNat_natCast]
      exact eg
  · skip
    have hw : ¬ whyR (M0 212) l = 0 := h2
    refine Ev.bipush (q := 18) dX12_rides_16 kb_m10 rfl ?_
    refine Ev.iload_n (q := 19) dX12_rides_18 rfl rfl ?_
    refine Ev.isub (q := 20) dX12_rides_19 rfl ?_
    refine rI dX12_rides_20 rfl ?_
    exact ⟨fun z => absurd z hw, fun _ => ⟨rfl, hF0⟩⟩
set_option maxRecDepth 4000 in
theorem p_X12_out {Γ : Gm} {d : Nat} {m : Mem} (p : Int) (hI : HI (m 212)) (h96 : 0 ≤ m 212 96 ∧ m 212 96 ≤ 10) : Ci Γ (d + 3) MX12_out [rv 211, iv p] m (fun r m' => (whyO (m 212) p = 0 → r = m 212 (72 + p.toNat) ∧ m' 212 = notG (upg (m 212) (88 + p.toNat) (-1)) (wasG (m 212)) ∧ Fr sD m m') ∧ (¬ whyO (m 212) p = 0 → r = w32 (-10 - whyO (m 212) p) ∧ Fr sQ m m')) := by
  refine Ci.of moX12_out rfl rfl (fun hA hM => ?_)
  show Em Γ (d + 3) MX12_out _ 0 [rv 211, iv p, uv] [] m
  refine Ev.aload_n (q := 1) dX12_out_0 rfl rfl ?_
  refine Ev.iconst (q := 2) dX12_out_1 ki_0 rfl ?_
  refine pI (q := 5) dX12_out_2 gfX12_1 k211 rfl rfl ?_
  obtain ⟨M0, hM0⟩ : ∃ M0, M0 = up m 211 0 0 := ⟨_, rfl⟩
  rw [← hM0]
  have hF0 : Fr sQ m M0 := by rw [hM0]; exact (Fr.rf _ _).up rfl
  have g0 : M0 212 = m 212 := hF0.row 212 (fun _ => rfl)
  rw [← g0] at hI ⊢
  have hF12 := hI.1
  have hL3 := hI.2.1
  have hP8 := hI.2.2.1
  rw [← g0] at h96
  clear hM0
  refine Ev.aload_n (q := 6) dX12_out_5 rfl rfl ?_
  refine Ev.iload_n (q := 7) dX12_out_6 rfl rfl ?_
  refine Ev.i2l (q := 8) dX12_out_7 rfl ?_
  refine cV1i (q := 11) (d' := d + 2) dX12_out_8 mlX12_271 moX12_whyOut mvX12_whyOut k211 rfl rfl rfl (Nat.le_refl _) rfl rfl rfl (p_X12_whyOut p hI) (fun r1 m1 e1 => ?_)
  obtain ⟨rfl, e1⟩ := e1
  obtain rfl := e1.symm
  refine istore_n_2 (q := 12) dX12_out_11 rfl rfl rfl ?_
  refine Ev.iload_n (q := 13) dX12_out_12 rfl rfl ?_
  refine Ev.if_eq (tgt := 21) (q := 16) dX12_out_13 (by decide) rfl (fun h2 => ?_) (fun h2 => ?_)
  · skip
    have hw : whyO (M0 212) p = 0 := h2
    have q := whyO_0 hw
    obtain ⟨pn, rfl⟩ : ∃ pn : Nat, p = pn := ⟨p.toNat, by omega⟩
    simp only [Int.toNat_natCast] at q
    refine Ev.aload_n (q := 22) dX12_out_21 rfl rfl ?_
    refine cV0v (q := 25) (d' := d + 2) dX12_out_22 mlX12_258 moX12_keeps mvX12_keeps k211 rfl rfl rfl (Nat.le_refl _) rfl rfl rfl (p_X12_keeps) (fun r3 m3 e3 => ?_)
    obtain ⟨hk36, hfrk⟩ := e3
    have hF1 : Fr sD m m3 := (hF0.mono (fun a k q => sD_Q q)).tr (hfrk.mono (fun a k q => sD_218 q))
    have g1 : m3 212 = M0 212 := hfrk.row 212 (fun _ => rfl)
    generalize m3 = M1 at *
    refine Ev.aload_n (q := 26) dX12_out_25 rfl rfl ?_
    refine gR (q := 29) dX12_out_26 gfX12_13 k211 r211_1 rfl rfl ?_
    refine Ev.bipush (q := 31) dX12_out_29 kb_88 rfl ?_
    refine Ev.iload_n (q := 32) dX12_out_31 rfl rfl ?_
    refine Ev.iadd (q := 33) dX12_out_32 rfl ?_
    refine Ev.iconst (q := 34) dX12_out_33 ki_m1 rfl ?_
    refine sI (q := 35) (k := 88 + pn) dX12_out_34 k212 (by first | rfl | omega | (simp (disch := omega) only [w32_of]; omega)) (by omega) rfl ?_
    obtain ⟨M2, hM2⟩ : ∃ M2, M2 = up M1 212 (88 + pn) (-1) := ⟨_, rfl⟩
    rw [← hM2]
    have hF2 : Fr sD m M2 := by rw [hM2]; exact hF1.up rfl
    have g2 : M2 212 = upg (M0 212) (88 + pn) (-1) := by rw [hM2, up_row, g1]
    have f18 : M2 218 = M1 218 := by rw [hM2]; exact up_na _ _ (by decide)
    have hs9 : M2 212 96 = M0 212 96 := by rw [hM2, up_k _ _ (by omega), g1]
    refine Ev.aload_n (q := 36) dX12_out_35 rfl rfl ?_
    refine cV0v (q := 39) (d' := d + 2) dX12_out_36 mlX12_261 moX12_notes mvX12_notes k211 rfl rfl rfl (Nat.le_refl _) rfl rfl rfl (p_X12_notes (by rw [hs9]; exact h96)) (fun r4 m4 e4 => ?_)
    obtain ⟨eg, hfrn⟩ := e4
    have hF3 := hF2.tr (hfrn.mono (fun a k q => sD_212 q))
    generalize m4 = M3 at *
    rw [g2, notG_congr (w' := wasG (M0 212)) (fun k hk => by rw [f18]; exact hk36 k hk)] at eg
    refine Ev.aload_n (q := 40) dX12_out_39 rfl rfl ?_
    refine gR (q := 43) dX12_out_40 gfX12_13 k211 r211_1 rfl rfl ?_
    refine Ev.bipush (q := 45) dX12_out_43 kb_72 rfl ?_
    refine Ev.iload_n (q := 46) dX12_out_45 rfl rfl ?_
    refine Ev.iadd (q := 47) dX12_out_46 rfl ?_
    refine aI (q := 48) (k := 72 + pn) dX12_out_47 k212 (by first | rfl | omega | (simp (disch := omega) only [w32_of]; omega)) (by omega) rfl ?_
    refine rI dX12_out_48 rfl ?_
    refine ⟨fun _ => ⟨?_, ?_, hF3⟩, fun z => absurd hw z⟩
    · rw [eg, notG_lo (by omega), upg_ne _ _ (by omega)]
      simp only [Int.toNat_natCast]
    · simp only [Int.toNat_natCast]
      exact eg
  · skip
    have hw : ¬ whyO (M0 212) p = 0 := h2
    refine Ev.bipush (q := 18) dX12_out_16 kb_m10 rfl ?_
    refine Ev.iload_n (q := 19) dX12_out_18 rfl rfl ?_
    refine Ev.isub (q := 20) dX12_out_19 rfl ?_
    refine rI dX12_out_20 rfl ?_
    exact ⟨fun z => absurd z hw, fun _ => ⟨rfl, hF0⟩⟩
set_option maxRecDepth 4000 in
theorem p_X12_in {Γ : Gm} {d : Nat} {m : Mem} (p l : Int) (hI : HI (m 212)) (h96 : 0 ≤ m 212 96 ∧ m 212 96 ≤ 10) : Ci Γ (d + 3) MX12_in [rv 211, iv p, iv l] m (fun r m' => (whyI (m 212) p l = 0 → r = getG (m 212) p.toNat l.toNat (63 + l.toNat) ∧ m' 212 = notG (getG (m 212) p.toNat l.toNat) (wasG (m 212)) ∧ Fr sD m m') ∧ (¬ whyI (m 212) p l = 0 → r = w32 (-10 - whyI (m 212) p l) ∧ Fr sQ m m')) := by
  refine Ci.of moX12_in rfl rfl (fun hA hM => ?_)
  show Em Γ (d + 3) MX12_in _ 0 [rv 211, iv p, iv l, uv] [] m
  refine Ev.aload_n (q := 1) dX12_in_0 rfl rfl ?_
  refine Ev.iconst (q := 2) dX12_in_1 ki_0 rfl ?_
  refine pI (q := 5) dX12_in_2 gfX12_1 k211 rfl rfl ?_
  obtain ⟨M0, hM0⟩ : ∃ M0, M0 = up m 211 0 0 := ⟨_, rfl⟩
  rw [← hM0]
  have hF0 : Fr sQ m M0 := by rw [hM0]; exact (Fr.rf _ _).up rfl
  have g0 : M0 212 = m 212 := hF0.row 212 (fun _ => rfl)
  rw [← g0] at hI ⊢
  have hF12 := hI.1
  have hL3 := hI.2.1
  have hP8 := hI.2.2.1
  rw [← g0] at h96
  clear hM0
  refine Ev.aload_n (q := 6) dX12_in_5 rfl rfl ?_
  refine Ev.iload_n (q := 7) dX12_in_6 rfl rfl ?_
  refine Ev.i2l (q := 8) dX12_in_7 rfl ?_
  refine Ev.iload_n (q := 9) dX12_in_8 rfl rfl ?_
  refine Ev.i2l (q := 10) dX12_in_9 rfl ?_
  refine cV2i (q := 13) (d' := d + 2) dX12_in_10 mlX12_274 moX12_whyIn mvX12_whyIn k211 rfl rfl rfl (Nat.le_refl _) rfl rfl rfl (p_X12_whyIn p l hI) (fun r1 m1 e1 => ?_)
  obtain ⟨rfl, e1⟩ := e1
  obtain rfl := e1.symm
  refine istore_n_3 (q := 14) dX12_in_13 rfl rfl rfl ?_
  refine Ev.iload_n (q := 15) dX12_in_14 rfl rfl ?_
  refine Ev.if_eq (tgt := 23) (q := 18) dX12_in_15 (by decide) rfl (fun h2 => ?_) (fun h2 => ?_)
  · skip
    have hw : whyI (M0 212) p l = 0 := h2
    have q := whyI_0 hw
    obtain ⟨pn, rfl⟩ : ∃ pn : Nat, p = pn := ⟨p.toNat, by omega⟩
    obtain ⟨ln, rfl⟩ : ∃ ln : Nat, l = ln := ⟨l.toNat, by omega⟩
    simp only [Int.toNat_natCast] at q
    refine Ev.aload_n (q := 24) dX12_in_23 rfl rfl ?_
    refine cV0v (q := 27) (d' := d + 2) dX12_in_24 mlX12_258 moX12_keeps mvX12_keeps k211 rfl rfl rfl (Nat.le_refl _) rfl rfl rfl (p_X12_keeps) (fun r3 m3 e3 => ?_)
    obtain ⟨hk36, hfrk⟩ := e3
    have hF1 : Fr sD m m3 := (hF0.mono (fun a k q => sD_Q q)).tr (hfrk.mono (fun a k q => sD_218 q))
    have g1 : m3 212 = M0 212 := hfrk.row 212 (fun _ => rfl)
    generalize m3 = M1 at *
    refine Ev.aload_n (q := 28) dX12_in_27 rfl rfl ?_
    refine Ev.iload_n (q := 29) dX12_in_28 rfl rfl ?_
    refine Ev.iload_n (q := 30) dX12_in_29 rfl rfl ?_
    refine cV2v (q := 33) (d' := d + 2) dX12_in_30 mlX12_278 moX12_getsIn mvX12_getsIn k211 rfl rfl rfl (Nat.le_refl _) rfl rfl rfl (p_X12_getsIn pn ln (by omega) (by omega)) (fun r4 m4 e4 => ?_)
    obtain ⟨g2, hfr2⟩ := e4
    rw [g1] at g2
    have hF2 := hF1.tr (hfr2.mono (fun a k q => sD_212 q))
    have f18 : m4 218 = M1 218 := hfr2.row 218 (fun _ => rfl)
    generalize m4 = M2 at *
    have hs9 : M2 212 96 = M0 212 96 := by rw [g2]; unfold getG; split <;> simp (disch := omega) only [upg_ne]
    refine Ev.aload_n (q := 34) dX12_in_33 rfl rfl ?_
    refine cV0v (q := 37) (d' := d + 2) dX12_in_34 mlX12_261 moX12_notes mvX12_notes k211 rfl rfl rfl (Nat.le_refl _) rfl rfl rfl (p_X12_notes (by rw [hs9]; exact h96)) (fun r5 m5 e5 => ?_)
    obtain ⟨eg, hfrn⟩ := e5
    have hF3 := hF2.tr (hfrn.mono (fun a k q => sD_212 q))
    generalize m5 = M3 at *
    rw [g2, notG_congr (w' := wasG (M0 212)) (fun k hk => by rw [f18]; exact hk36 k hk)] at eg
    refine Ev.aload_n (q := 38) dX12_in_37 rfl rfl ?_
    refine gR (q := 41) dX12_in_38 gfX12_13 k211 r211_1 rfl rfl ?_
    refine Ev.bipush (q := 43) dX12_in_41 kb_63 rfl ?_
    refine Ev.iload_n (q := 44) dX12_in_43 rfl rfl ?_
    refine Ev.iadd (q := 45) dX12_in_44 rfl ?_
    refine aI (q := 46) (k := 63 + ln) dX12_in_45 k212 (by first | rfl | omega | (simp (disch := omega) only [w32_of]; omega)) (by omega) rfl ?_
    refine rI dX12_in_46 rfl ?_
    refine ⟨fun _ => ⟨?_, ?_, hF3⟩, fun z => absurd hw z⟩
    · rw [eg, notG_lo (by omega)]
      simp only [Int.toNat_natCast]
    · simp only [Int.toNat_natCast]
      exact eg
  · skip
    have hw : ¬ whyI (M0 212) p l = 0 := h2
    refine Ev.bipush (q := 20) dX12_in_18 kb_m10 rfl ?_
    refine Ev.iload_n (q := 21) dX12_in_20 rfl rfl ?_
    refine Ev.isub (q := 22) dX12_in_21 rfl ?_
    refine rI dX12_in_22 rfl ?_
    exact ⟨fun z => absurd z hw, fun _ => ⟨rfl, hF0⟩⟩
set_option maxRecDepth 4000 in
theorem p_X12_walks {Γ : Gm} {d : Nat} {m : Mem} (p f : Int) (hI : HI (m 212)) (h96 : 0 ≤ m 212 96 ∧ m 212 96 ≤ 10) : Ci Γ (d + 4) MX12_walks [rv 211, iv p, iv f] m (fun r m' => (whyW (m 212) p f = 0 → r = walG (m 212) p.toNat f.toNat (80 + p.toNat) ∧ m' 212 = notG (walG (m 212) p.toNat f.toNat) (wasG (m 212)) ∧ Fr sD m m') ∧ (¬ whyW (m 212) p f = 0 → r = w32 (-10 - whyW (m 212) p f) ∧ Fr sQ m m')) := by
  refine Ci.of moX12_walks rfl rfl (fun hA hM => ?_)
  show Em Γ (d + 4) MX12_walks _ 0 [rv 211, iv p, iv f, uv] [] m
  refine Ev.aload_n (q := 1) dX12_walks_0 rfl rfl ?_
  refine Ev.iconst (q := 2) dX12_walks_1 ki_0 rfl ?_
  refine pI (q := 5) dX12_walks_2 gfX12_1 k211 rfl rfl ?_
  obtain ⟨M0, hM0⟩ : ∃ M0, M0 = up m 211 0 0 := ⟨_, rfl⟩
  rw [← hM0]
  have hF0 : Fr sQ m M0 := by rw [hM0]; exact (Fr.rf _ _).up rfl
  have g0 : M0 212 = m 212 := hF0.row 212 (fun _ => rfl)
  rw [← g0] at hI ⊢
  have hF12 := hI.1
  have hL3 := hI.2.1
  have hP8 := hI.2.2.1
  rw [← g0] at h96
  clear hM0
  refine Ev.aload_n (q := 6) dX12_walks_5 rfl rfl ?_
  refine Ev.iload_n (q := 7) dX12_walks_6 rfl rfl ?_
  refine Ev.i2l (q := 8) dX12_walks_7 rfl ?_
  refine Ev.iload_n (q := 9) dX12_walks_8 rfl rfl ?_
  refine Ev.i2l (q := 10) dX12_walks_9 rfl ?_
  refine cV2i (q := 13) (d' := d + 3) dX12_walks_10 mlX12_282 moX12_whyWalk mvX12_whyWalk k211 rfl rfl rfl (Nat.le_refl _) rfl rfl rfl (p_X12_whyWalk p f hI) (fun r1 m1 e1 => ?_)
  obtain ⟨rfl, e1⟩ := e1
  obtain rfl := e1.symm
  refine istore_n_3 (q := 14) dX12_walks_13 rfl rfl rfl ?_
  refine Ev.iload_n (q := 15) dX12_walks_14 rfl rfl ?_
  refine Ev.if_eq (tgt := 23) (q := 18) dX12_walks_15 (by decide) rfl (fun h2 => ?_) (fun h2 => ?_)
  · skip
    have hw : whyW (M0 212) p f = 0 := h2
    have q := whyW_0 hw
    obtain ⟨pn, rfl⟩ : ∃ pn : Nat, p = pn := ⟨p.toNat, by omega⟩
    obtain ⟨fn, rfl⟩ : ∃ fn : Nat, f = fn := ⟨f.toNat, by omega⟩
    simp only [Int.toNat_natCast] at q
    refine Ev.aload_n (q := 24) dX12_walks_23 rfl rfl ?_
    refine cV0v (q := 27) (d' := d + 3) dX12_walks_24 mlX12_258 moX12_keeps mvX12_keeps k211 rfl rfl rfl (Nat.le_refl _) rfl rfl rfl (p_X12_keeps) (fun r3 m3 e3 => ?_)
    obtain ⟨hk36, hfrk⟩ := e3
    have hF1 : Fr sD m m3 := (hF0.mono (fun a k q => sD_Q q)).tr (hfrk.mono (fun a k q => sD_218 q))
    have g1 : m3 212 = M0 212 := hfrk.row 212 (fun _ => rfl)
    generalize m3 = M1 at *
    refine Ev.aload_n (q := 28) dX12_walks_27 rfl rfl ?_
    refine Ev.iload_n (q := 29) dX12_walks_28 rfl rfl ?_
    refine Ev.iload_n (q := 30) dX12_walks_29 rfl rfl ?_
    refine cV2v (q := 33) (d' := d + 3) dX12_walks_30 mlX12_285 moX12_walksOne mvX12_walksOne k211 rfl rfl rfl (Nat.le_refl _) rfl rfl rfl (p_X12_walksOne pn fn (by rw [g1]; exact hI) (by rw [g1]; omega) (by omega)) (fun r4 m4 e4 => ?_)
    obtain ⟨g2, hfr2⟩ := e4
    rw [g1] at g2
    have hF2 := hF1.tr (hfr2.mono (fun a k q => sD_Rd q))
    have f18 : m4 218 = M1 218 := hfr2.row 218 (fun _ => rfl)
    generalize m4 = M2 at *
    have hs9 : M2 212 96 = M0 212 96 := by rw [g2]; unfold walG; simp (disch := omega) only [upg_ne]
    refine Ev.aload_n (q := 34) dX12_walks_33 rfl rfl ?_
    refine cV0v (q := 37) (d' := d + 3) dX12_walks_34 mlX12_261 moX12_notes mvX12_notes k211 rfl rfl rfl (Nat.le_refl _) rfl rfl rfl (p_X12_notes (by rw [hs9]; exact h96)) (fun r5 m5 e5 => ?_)
    obtain ⟨eg, hfrn⟩ := e5
    have hF3 := hF2.tr (hfrn.mono (fun a k q => sD_212 q))
    generalize m5 = M3 at *
    rw [g2, notG_congr (w' := wasG (M0 212)) (fun k hk => by rw [f18]; exact hk36 k hk)] at eg
    refine Ev.aload_n (q := 38) dX12_walks_37 rfl rfl ?_
    refine gR (q := 41) dX12_walks_38 gfX12_13 k211 r211_1 rfl rfl ?_
    refine Ev.bipush (q := 43) dX12_walks_41 kb_80 rfl ?_
    refine Ev.iload_n (q := 44) dX12_walks_43 rfl rfl ?_
    refine Ev.iadd (q := 45) dX12_walks_44 rfl ?_
    refine aI (q := 46) (k := 80 + pn) dX12_walks_45 k212 (by first | rfl | omega | (simp (disch := omega) only [w32_of]; omega)) (by omega) rfl ?_
    refine rI dX12_walks_46 rfl ?_
    refine ⟨fun _ => ⟨?_, ?_, hF3⟩, fun z => absurd hw z⟩
    · rw [eg, notG_lo (by omega)]
      simp only [Int.toNat_natCast]
    · simp only [Int.toNat_natCast]
      exact eg
  · skip
    have hw : ¬ whyW (M0 212) p f = 0 := h2
    refine Ev.bipush (q := 20) dX12_walks_18 kb_m10 rfl ?_
    refine Ev.iload_n (q := 21) dX12_walks_20 rfl rfl ?_
    refine Ev.isub (q := 22) dX12_walks_21 rfl ?_
    refine rI dX12_walks_22 rfl ?_
    exact ⟨fun z => absurd z hw, fun _ => ⟨rfl, hF0⟩⟩
