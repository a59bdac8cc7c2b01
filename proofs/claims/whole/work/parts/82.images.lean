/-! ===== the class: images ===== -/
def sIg (i a k : Nat) : Bool := decide ((173 + 19 * i ≤ a ∧ a ≤ 183 + 19 * i) ∨ (184 + 19 * i < a ∧ a ≤ 191 + 19 * i) ∨ (a = 64 ∧ k = i))
theorem sIg_f {i a k : Nat} (h : ¬ ((173 + 19 * i ≤ a ∧ a ≤ 183 + 19 * i) ∨ (184 + 19 * i < a ∧ a ≤ 191 + 19 * i) ∨ (a = 64 ∧ k = i))) : sIg i a k = false := decide_eq_false h
theorem sIg_n {i a k : Nat} (h : sIg i a k = false) : ¬ ((173 + 19 * i ≤ a ∧ a ≤ 183 + 19 * i) ∨ (184 + 19 * i < a ∧ a ≤ 191 + 19 * i) ∨ (a = 64 ∧ k = i)) := of_decide_eq_false h
def sRe (a k : Nat) : Bool := decide ((33 ≤ a ∧ a ≤ 43) ∨ (44 < a ∧ a ≤ 51) ∨ (a = 0 ∧ k = 8))
theorem sRe_f {a k : Nat} (h : ¬ ((33 ≤ a ∧ a ≤ 43) ∨ (44 < a ∧ a ≤ 51) ∨ (a = 0 ∧ k = 8))) : sRe a k = false := decide_eq_false h
theorem sRe_n {a k : Nat} (h : sRe a k = false) : ¬ ((33 ≤ a ∧ a ≤ 43) ∨ (44 < a ∧ a ≤ 51) ∨ (a = 0 ∧ k = 8)) := of_decide_eq_false h
set_option maxRecDepth 4000 in
theorem p_X11_image {Γ : Gm} {d : Nat} {m : Mem} (g : Row) (i : Int) (hI : HI g) (hH : HouR g m 33) (hN : NowR g m 44) : Ci Γ (d + 2) MX11_image [rv 0, iv i] m (fun r m' => ((0 ≤ i ∧ i ≤ 1) → r = 0 ∧ HouR g m' (173 + 19 * i.toNat) ∧ NowR g m' (184 + 19 * i.toNat) ∧ m' 64 i.toNat = 1 ∧ Fr (sIg i.toNat) m m') ∧ (¬ (0 ≤ i ∧ i ≤ 1) → r = -2 ∧ m' = m)) := by
  refine Ci.of moX11_image rfl rfl (fun hA hM => ?_)
  show Em Γ (d + 2) MX11_image _ 0 [rv 0, iv i] [] m
  have hF12 := hI.1
  have hP8 := hI.2.2.1
  have hL3 := hI.2.1
  obtain ⟨n0, n1, n2, n3⟩ := hH.n0
  refine Ev.iload_n (q := 1) dX11_image_0 rfl rfl ?_
  refine Ev.if_lt (tgt := 9) (q := 4) dX11_image_1 (by decide) rfl (fun h1 => ?_) (fun h1 => ?_)
  · skip
    refine Ev.bipush (q := 11) dX11_image_9 kb_m2 rfl ?_
    refine rI dX11_image_11 rfl ?_
    exact ⟨fun z => absurd z (by omega), fun _ => ⟨rfl, rfl⟩⟩
  · skip
    refine Ev.iload_n (q := 5) dX11_image_4 rfl rfl ?_
    refine Ev.iconst (q := 6) dX11_image_5 ki_2 rfl ?_
    refine Ev.icmp_lt (tgt := 12) (q := 9) dX11_image_6 (by decide) rfl (fun h2 => ?_) (fun h2 => ?_)
    · skip
      obtain ⟨iN, rfl⟩ : ∃ iN : Nat, i = iN := ⟨i.toNat, by omega⟩
      obtain ⟨ihK, ⟨ihr0, ihr1, ihr2, ihr3, ihr4, ihr5, ihr6, ihr7, ihr8, ihr9⟩, ihK0, ihK1, ihK2, ihK3, ihK4, ihK5, ihK6, ihK7, ihK8, ihK9, ihN⟩ := houK (173 + 19 * iN) (imgK iN (by omega)).2.1
      obtain ⟨inK, ⟨inr0, inr1, inr2, inr3, inr4, inr5, inr6⟩, inK0, inK1, inK2, inK3, inK4, inK5, inK6, inN⟩ := nowK (184 + 19 * iN) (imgK iN (by omega)).2.2.2
      refine Ev.aload_n (q := 13) dX11_image_12 rfl rfl ?_
      refine gR (q := 16) dX11_image_13 gfX11_57 k0 r0_10 rfl rfl ?_
      refine Ev.iload_n (q := 17) dX11_image_16 rfl rfl ?_
      refine aR (q := 18) (k := iN) dX11_image_17 k62 (by decide) (by first | rfl | omega | (simp (disch := omega) only [w32_of]; omega)) (by omega) (imgK iN (by omega)).1 rfl ?_
      refine Ev.aload_n (q := 19) dX11_image_18 rfl rfl ?_
      refine gR (q := 22) dX11_image_19 gfX11_27 k0 r0_3 rfl rfl ?_
      refine cV1v (q := 25) (d' := d + 1) dX11_image_22 mlX11_122 moX1_copyFrom mvX1_copyFrom ihK rfl rfl rfl (Nat.le_refl _) rfl rfl rfl (p_X1_copyFrom (173 + 19 * iN) 33 (imgK iN (by omega)).2.1 (by decide) (by omega)) (fun r3 m3 e3 => ?_)
      obtain ⟨M1, rfl⟩ : ∃ M1, M1 = m3 := ⟨_, rfl⟩
      obtain ⟨kk0, kk1, f1⟩ := e3
      have hI1 : HouR g M1 (173 + 19 * iN) := HouR.copy hF12.2 hL3.2 hP8.2 hH kk0 kk1
      have hN1 : NowR g M1 44 := hN.keep (fun a h1 h2 => f1.row a (fun _ => sH_f (by omega)))
      refine Ev.aload_n (q := 26) dX11_image_25 rfl rfl ?_
      refine gR (q := 29) dX11_image_26 gfX11_61 k0 r0_11 rfl rfl ?_
      refine Ev.iload_n (q := 30) dX11_image_29 rfl rfl ?_
      refine aR (q := 31) (k := iN) dX11_image_30 k63 (by decide) (by first | rfl | omega | (simp (disch := omega) only [w32_of]; omega)) (by omega) (imgK iN (by omega)).2.2.1 rfl ?_
      refine Ev.aload_n (q := 32) dX11_image_31 rfl rfl ?_
      refine gR (q := 35) dX11_image_32 gfX11_34 k0 r0_4 rfl rfl ?_
      refine cV1v (q := 38) (d' := d + 1) dX11_image_35 mlX11_126 moX4_copyFrom mvX4_copyFrom inK rfl rfl rfl (Nat.le_refl _) rfl rfl rfl (p_X4_copyFrom (184 + 19 * iN) 44 (imgK iN (by omega)).2.2.2 (by decide) (by omega)) (fun r4 m4 e4 => ?_)
      obtain ⟨M2, rfl⟩ : ∃ M2, M2 = m4 := ⟨_, rfl⟩
      obtain ⟨kk2, f2⟩ := e4
      have hN2 : NowR g M2 (184 + 19 * iN) := NowR.copy hL3.2 hP8.2 hN1 kk2
      have hI2 : HouR g M2 (173 + 19 * iN) := hI1.keep (fun a h1 h2 => f2.row a (fun _ => sN_f (by omega)))
      refine Ev.aload_n (q := 39) dX11_image_38 rfl rfl ?_
      refine gR (q := 42) dX11_image_39 gfX11_64 k0 r0_12 rfl rfl ?_
      refine Ev.iload_n (q := 43) dX11_image_42 rfl rfl ?_
      refine Ev.iconst (q := 44) dX11_image_43 ki_1 rfl ?_
      refine sZ (q := 45) (k := iN) dX11_image_44 k64 (by first | rfl | omega | (simp (disch := omega) only [w32_of]; omega)) (by omega) (by decide) rfl ?_
      refine Ev.iconst (q := 46) dX11_image_45 ki_0 rfl ?_
      refine rI dX11_image_46 rfl ?_
      refine ⟨fun _ => ⟨rfl, hI2.keep (fun a h1 h2 => up_na _ _ (by omega)), hN2.keep (fun a h1 h2 => up_na _ _ (by omega)), up_eq _ _ _ _, ?_⟩, fun z => absurd (by omega) z⟩
      exact ((f1.mono (fun a k q => sH_f (by have := sIg_n q; omega))).tr (f2.mono (fun a k q => sN_f (by have := sIg_n q; omega)))).up (decide_eq_true (by omega))
    · skip
      refine Ev.bipush (q := 11) dX11_image_9 kb_m2 rfl ?_
      refine rI dX11_image_11 rfl ?_
      exact ⟨fun z => absurd z (by omega), fun _ => ⟨rfl, rfl⟩⟩
set_option maxRecDepth 4000 in
theorem p_X11_restore {Γ : Gm} {d : Nat} {m : Mem} (gi : Nat → Row) (i : Int) (himg : ∀ j, j < 2 → ¬ m 64 j = 0 → HI (gi j) ∧ HouR (gi j) m (173 + 19 * j) ∧ NowR (gi j) m (184 + 19 * j)) : Ci Γ (d + 2) MX11_restore [rv 0, iv i] m (fun r m' => (((0 ≤ i ∧ i ≤ 1) ∧ ¬ m 64 i.toNat = 0) → r = 0 ∧ HouR (gi i.toNat) m' 33 ∧ NowR (gi i.toNat) m' 44 ∧ m' 0 8 = 0 ∧ Fr sRe m m') ∧ (¬ ((0 ≤ i ∧ i ≤ 1) ∧ ¬ m 64 i.toNat = 0) → r = (if 0 ≤ i ∧ i ≤ 1 then -5 else -2) ∧ m' = m)) := by
  refine Ci.of moX11_restore rfl rfl (fun hA hM => ?_)
  show Em Γ (d + 2) MX11_restore _ 0 [rv 0, iv i] [] m
  refine Ev.iload_n (q := 1) dX11_restore_0 rfl rfl ?_
  refine Ev.if_lt (tgt := 9) (q := 4) dX11_restore_1 (by decide) rfl (fun h1 => ?_) (fun h1 => ?_)
  · skip
    refine Ev.bipush (q := 11) dX11_restore_9 kb_m2 rfl ?_
    refine rI dX11_restore_11 rfl ?_
    exact ⟨fun z => absurd z (by omega), fun _ => ⟨by rw [if_neg (by omega)], rfl⟩⟩
  · skip
    refine Ev.iload_n (q := 5) dX11_restore_4 rfl rfl ?_
    refine Ev.iconst (q := 6) dX11_restore_5 ki_2 rfl ?_
    refine Ev.icmp_lt (tgt := 12) (q := 9) dX11_restore_6 (by decide) rfl (fun h2 => ?_) (fun h2 => ?_)
    · skip
      obtain ⟨iN, rfl⟩ : ∃ iN : Nat, i = iN := ⟨i.toNat, by omega⟩
      obtain ⟨ihK, ⟨ihr0, ihr1, ihr2, ihr3, ihr4, ihr5, ihr6, ihr7, ihr8, ihr9⟩, ihK0, ihK1, ihK2, ihK3, ihK4, ihK5, ihK6, ihK7, ihK8, ihK9, ihN⟩ := houK (173 + 19 * iN) (imgK iN (by omega)).2.1
      obtain ⟨inK, ⟨inr0, inr1, inr2, inr3, inr4, inr5, inr6⟩, inK0, inK1, inK2, inK3, inK4, inK5, inK6, inN⟩ := nowK (184 + 19 * iN) (imgK iN (by omega)).2.2.2
      refine Ev.aload_n (q := 13) dX11_restore_12 rfl rfl ?_
      refine gR (q := 16) dX11_restore_13 gfX11_64 k0 r0_12 rfl rfl ?_
      refine Ev.iload_n (q := 17) dX11_restore_16 rfl rfl ?_
      refine aZ (q := 18) (k := iN) dX11_restore_17 k64 (by first | rfl | omega | (simp (disch := omega) only [w32_of]; omega)) (by omega) rfl ?_
      refine Ev.if_ne (tgt := 24) (q := 21) dX11_restore_18 (by decide) rfl (fun h3 => ?_) (fun h3 => ?_)
      · skip
        have hmd : ¬ m 64 iN = 0 := h3
        obtain ⟨hI, hH, hN⟩ := himg iN (by omega) hmd
        have hF12 := hI.1
        have hL3 := hI.2.1
        have hP8 := hI.2.2.1
        refine Ev.aload_n (q := 25) dX11_restore_24 rfl rfl ?_
        refine gR (q := 28) dX11_restore_25 gfX11_27 k0 r0_3 rfl rfl ?_
        refine Ev.aload_n (q := 29) dX11_restore_28 rfl rfl ?_
        refine gR (q := 32) dX11_restore_29 gfX11_57 k0 r0_10 rfl rfl ?_
        refine Ev.iload_n (q := 33) dX11_restore_32 rfl rfl ?_
        refine aR (q := 34) (k := iN) dX11_restore_33 k62 (by decide) (by first | rfl | omega | (simp (disch := omega) only [w32_of]; omega)) (by omega) (imgK iN (by omega)).1 rfl ?_
        refine cV1v (q := 37) (d' := d + 1) dX11_restore_34 mlX11_122 moX1_copyFrom mvX1_copyFrom k33 rfl rfl rfl (Nat.le_refl _) rfl rfl rfl (p_X1_copyFrom 33 (173 + 19 * iN) (by decide) (imgK iN (by omega)).2.1 (by omega)) (fun r4 m4 e4 => ?_)
        obtain ⟨M1, rfl⟩ : ∃ M1, M1 = m4 := ⟨_, rfl⟩
        obtain ⟨kk0, kk1, f1⟩ := e4
        have hI1 : HouR (gi iN) M1 33 := HouR.copy hF12.2 hL3.2 hP8.2 hH kk0 kk1
        have hN1 : NowR (gi iN) M1 (184 + 19 * iN) := hN.keep (fun a h1 h2 => f1.row a (fun _ => sH_f (by omega)))
        refine Ev.aload_n (q := 38) dX11_restore_37 rfl rfl ?_
        refine gR (q := 41) dX11_restore_38 gfX11_34 k0 r0_4 rfl rfl ?_
        refine Ev.aload_n (q := 42) dX11_restore_41 rfl rfl ?_
        refine gR (q := 45) dX11_restore_42 gfX11_61 k0 r0_11 rfl rfl ?_
        refine Ev.iload_n (q := 46) dX11_restore_45 rfl rfl ?_
        refine aR (q := 47) (k := iN) dX11_restore_46 k63 (by decide) (by first | rfl | omega | (simp (disch := omega) only [w32_of]; omega)) (by omega) (imgK iN (by omega)).2.2.1 rfl ?_
        refine cV1v (q := 50) (d' := d + 1) dX11_restore_47 mlX11_126 moX4_copyFrom mvX4_copyFrom k44 rfl rfl rfl (Nat.le_refl _) rfl rfl rfl (p_X4_copyFrom 44 (184 + 19 * iN) (by decide) (imgK iN (by omega)).2.2.2 (by omega)) (fun r5 m5 e5 => ?_)
        obtain ⟨M2, rfl⟩ : ∃ M2, M2 = m5 := ⟨_, rfl⟩
        obtain ⟨kk2, f2⟩ := e5
        have hN2 : NowR (gi iN) M2 44 := NowR.copy hL3.2 hP8.2 hN1 kk2
        have hI2 : HouR (gi iN) M2 33 := hI1.keep (fun a h1 h2 => f2.row a (fun _ => sN_f (by omega)))
        refine Ev.aload_n (q := 51) dX11_restore_50 rfl rfl ?_
        refine Ev.iconst (q := 52) dX11_restore_51 ki_0 rfl ?_
        refine pI (q := 55) dX11_restore_52 gfX11_48 k0 rfl rfl ?_
        refine Ev.iconst (q := 56) dX11_restore_55 ki_0 rfl ?_
        refine rI dX11_restore_56 rfl ?_
        refine ⟨fun _ => ⟨rfl, hI2.keep (fun a h1 h2 => up_na _ _ (by omega)), hN2.keep (fun a h1 h2 => up_na _ _ (by omega)), up_eq _ _ _ _, ?_⟩, fun z => absurd ⟨by omega, hmd⟩ z⟩
        exact ((f1.mono (fun a k q => sH_f (by have := sRe_n q; omega))).tr (f2.mono (fun a k q => sN_f (by have := sRe_n q; omega)))).up rfl
      · skip
        refine Ev.bipush (q := 23) dX11_restore_21 kb_m5 rfl ?_
        refine rI dX11_restore_23 rfl ?_
        exact ⟨fun z => absurd (show m 64 iN = 0 by assumption) z.2, fun _ => ⟨by rw [if_pos (by omega)], rfl⟩⟩
    · skip
      refine Ev.bipush (q := 11) dX11_restore_9 kb_m2 rfl ?_
      refine rI dX11_restore_11 rfl ?_
      exact ⟨fun z => absurd z (by omega), fun _ => ⟨by rw [if_neg (by omega)], rfl⟩⟩
