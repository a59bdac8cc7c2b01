/-! ===== the reference: rides ===== -/
set_option maxRecDepth 4000 in
theorem p_X12_loads {Γ : Gm} {d : Nat} {m : Mem} (l : Nat) (hl : l < 3) (h60 : 0 ≤ m 212 (60 + l)) (h66 : 0 ≤ m 212 (66 + l)) : Ci Γ (d + 0) MX12_loads [rv 211, iv l] m (fun r m' => TM m' l (liftT (m 212) l) ∧ Fr sT m m') := by
  refine Ci.of moX12_loads rfl rfl (fun hA hM => ?_)
  show Em Γ (d + 0) MX12_loads _ 0 [rv 211, iv l] [] m
  refine Ev.aload_n (q := 1) dX12_loads_0 rfl rfl ?_
  refine Ev.iload_n (q := 2) dX12_loads_1 rfl rfl ?_
  refine pI (q := 5) dX12_loads_2 gfX12_191 k211 rfl rfl ?_
  refine Ev.aload_n (q := 6) dX12_loads_5 rfl rfl ?_
  refine Ev.aload_n (q := 7) dX12_loads_6 rfl rfl ?_
  refine gR (q := 10) dX12_loads_7 gfX12_13 k211 r211_1 rfl rfl ?_
  refine Ev.bipush (q := 12) dX12_loads_10 kb_60 rfl ?_
  refine Ev.iload_n (q := 13) dX12_loads_12 rfl rfl ?_
  refine Ev.iadd (q := 14) dX12_loads_13 rfl ?_
  refine aI (q := 15) (k := 60 + l) dX12_loads_14 k212 (by first | rfl | omega | (simp (disch := omega) only [w32_of]; omega)) (by omega) rfl ?_
  simp (disch := omega) only [up_o]
  refine pI (q := 18) dX12_loads_15 gfX12_194 k211 rfl rfl ?_
  refine Ev.aload_n (q := 19) dX12_loads_18 rfl rfl ?_
  refine Ev.aload_n (q := 20) dX12_loads_19 rfl rfl ?_
  refine gR (q := 23) dX12_loads_20 gfX12_13 k211 r211_1 rfl rfl ?_
  refine Ev.bipush (q := 25) dX12_loads_23 kb_63 rfl ?_
  refine Ev.iload_n (q := 26) dX12_loads_25 rfl rfl ?_
  refine Ev.iadd (q := 27) dX12_loads_26 rfl ?_
  refine aI (q := 28) (k := 63 + l) dX12_loads_27 k212 (by first | rfl | omega | (simp (disch := omega) only [w32_of]; omega)) (by omega) rfl ?_
  simp (disch := omega) only [up_o]
  refine pI (q := 31) dX12_loads_28 gfX12_197 k211 rfl rfl ?_
  refine Ev.aload_n (q := 32) dX12_loads_31 rfl rfl ?_
  refine Ev.aload_n (q := 33) dX12_loads_32 rfl rfl ?_
  refine gR (q := 36) dX12_loads_33 gfX12_13 k211 r211_1 rfl rfl ?_
  refine Ev.bipush (q := 38) dX12_loads_36 kb_66 rfl ?_
  refine Ev.iload_n (q := 39) dX12_loads_38 rfl rfl ?_
  refine Ev.iadd (q := 40) dX12_loads_39 rfl ?_
  refine aI (q := 41) (k := 66 + l) dX12_loads_40 k212 (by first | rfl | omega | (simp (disch := omega) only [w32_of]; omega)) (by omega) rfl ?_
  simp (disch := omega) only [up_o]
  refine pI (q := 44) dX12_loads_41 gfX12_200 k211 rfl rfl ?_
  refine Ev.aload_n (q := 45) dX12_loads_44 rfl rfl ?_
  refine Ev.aload_n (q := 46) dX12_loads_45 rfl rfl ?_
  refine gR (q := 49) dX12_loads_46 gfX12_13 k211 r211_1 rfl rfl ?_
  refine Ev.bipush (q := 51) dX12_loads_49 kb_69 rfl ?_
  refine Ev.iload_n (q := 52) dX12_loads_51 rfl rfl ?_
  refine Ev.iadd (q := 53) dX12_loads_52 rfl ?_
  refine aI (q := 54) (k := 69 + l) dX12_loads_53 k212 (by first | rfl | omega | (simp (disch := omega) only [w32_of]; omega)) (by omega) rfl ?_
  simp (disch := omega) only [up_o]
  refine Ev.iconst (q := 55) dX12_loads_54 ki_1 rfl ?_
  refine Ev.icmp_ne (tgt := 62) (q := 58) dX12_loads_55 (by decide) rfl (fun h1 => ?_) (fun h1 => ?_)
  · skip
    refine Ev.iconst (q := 63) dX12_loads_62 ki_0 rfl ?_
    refine pZ (q := 66) dX12_loads_63 gfX12_203 k211 (by decide) rfl rfl ?_
    refine rV dX12_loads_66 rfl ?_
    refine ⟨⟨?_, ?_, ?_, ?_, ?_⟩, (((((Fr.rf _ _).up rfl).up rfl).up rfl).up rfl).up rfl⟩ <;> simp (disch := omega) only [up_k, up_eq] <;> simp [liftT] <;> omega
  · skip
    refine Ev.iconst (q := 59) dX12_loads_58 ki_1 rfl ?_
    refine Ev.goto (q := 63) dX12_loads_59 (by decide) ?_
    refine pZ (q := 66) dX12_loads_63 gfX12_203 k211 (by decide) rfl rfl ?_
    refine rV dX12_loads_66 rfl ?_
    refine ⟨⟨?_, ?_, ?_, ?_, ?_⟩, (((((Fr.rf _ _).up rfl).up rfl).up rfl).up rfl).up rfl⟩ <;> simp (disch := omega) only [up_k, up_eq] <;> simp [liftT] <;> omega
set_option maxRecDepth 4000 in
theorem l_near_up {Γ : Gm} {d : Nat} {m : Mem} (h s F : Nat) (hh : m 211 19 = h) (hs : m 211 21 = s) (hF : m 212 1 = F) (hhF : h < F) (hF12 : F ≤ 12) (hsF : s < 2 ^ F) : ∀ (n f : Nat), f + n = F → f ≤ F → Em Γ (d + 1) MX12_nearestLit (fun r m' => r = optI (abv s (12 - f) f) ∧ m' = m) 15 [rv 211, iv 1, iv f] [] m := by
  intro n
  induction n with
  | zero =>
    intro f hf hfF
    obtain rfl : F = f := by omega
    refine Ev.iload_n (q := 16) dX12_nearestLit_15 rfl rfl ?_
    refine Ev.i2l (q := 17) dX12_nearestLit_16 rfl ?_
    refine Ev.lconst (q := 18) dX12_nearestLit_17 kj_0 rfl ?_
    refine Ev.aload_n (q := 19) dX12_nearestLit_18 rfl rfl ?_
    refine gR (q := 22) dX12_nearestLit_19 gfX12_13 k211 r211_1 rfl rfl ?_
    refine Ev.iconst (q := 23) dX12_nearestLit_22 ki_1 rfl ?_
    refine aI (q := 24) (k := 1) dX12_nearestLit_23 k212 (by rfl) (by decide) rfl ?_
    rw [hF]
    refine Ev.iconst (q := 25) dX12_nearestLit_24 ki_1 rfl ?_
    refine Ev.isub (q := 26) dX12_nearestLit_25 rfl ?_
    refine Ev.i2l (q := 27) dX12_nearestLit_26 rfl ?_
    rw [w32_of (by omega) (by omega)]
    refine cS3i (q := 30) (d' := d + 0) dX12_nearestLit_27 mlX12_118 moX12_within msX12_within rfl rfl (Nat.le_refl _) rfl rfl rfl (p_X12_within _ _ _) (fun r1 m1 e1 => ?_)
    obtain ⟨rfl, rfl⟩ := e1
    refine Ev.if_eq (tgt := 62) (q := 33) dX12_nearestLit_30 (by decide) rfl (fun h2 => ?_) (fun h2 => ?_)
    · skip
      refine Ev.iconst (q := 63) dX12_nearestLit_62 ki_m1 rfl ?_
      refine rI dX12_nearestLit_63 rfl ?_
      refine ⟨?_, rfl⟩
      rw [abv_none hsF _ _ (Nat.le_refl _)]
      rfl
    · skip
      split at h2 <;> omega
  | succ n ih =>
    intro f hf hfF
    refine Ev.iload_n (q := 16) dX12_nearestLit_15 rfl rfl ?_
    refine Ev.i2l (q := 17) dX12_nearestLit_16 rfl ?_
    refine Ev.lconst (q := 18) dX12_nearestLit_17 kj_0 rfl ?_
    refine Ev.aload_n (q := 19) dX12_nearestLit_18 rfl rfl ?_
    refine gR (q := 22) dX12_nearestLit_19 gfX12_13 k211 r211_1 rfl rfl ?_
    refine Ev.iconst (q := 23) dX12_nearestLit_22 ki_1 rfl ?_
    refine aI (q := 24) (k := 1) dX12_nearestLit_23 k212 (by rfl) (by decide) rfl ?_
    rw [hF]
    refine Ev.iconst (q := 25) dX12_nearestLit_24 ki_1 rfl ?_
    refine Ev.isub (q := 26) dX12_nearestLit_25 rfl ?_
    refine Ev.i2l (q := 27) dX12_nearestLit_26 rfl ?_
    rw [w32_of (by omega) (by omega)]
    refine cS3i (q := 30) (d' := d + 0) dX12_nearestLit_27 mlX12_118 moX12_within msX12_within rfl rfl (Nat.le_refl _) rfl rfl rfl (p_X12_within _ _ _) (fun r1 m1 e1 => ?_)
    obtain ⟨rfl, rfl⟩ := e1
    refine Ev.if_eq (tgt := 62) (q := 33) dX12_nearestLit_30 (by decide) rfl (fun h2 => ?_) (fun h2 => ?_)
    · skip
      have hx : f = F := by split at h2 <;> omega
      subst hx
      refine Ev.iconst (q := 63) dX12_nearestLit_62 ki_m1 rfl ?_
      refine rI dX12_nearestLit_63 rfl ?_
      refine ⟨?_, rfl⟩
      rw [abv_none hsF _ _ (Nat.le_refl _)]
      rfl
    · skip
      have hlt : f < F := by split at h2 <;> omega
      refine Ev.aload_n (q := 34) dX12_nearestLit_33 rfl rfl ?_
      refine gI (q := 37) dX12_nearestLit_34 gfX12_200 k211 rfl rfl ?_
      rw [hs]
      refine Ev.i2l (q := 38) dX12_nearestLit_37 rfl ?_
      refine Ev.iload_n (q := 39) dX12_nearestLit_38 rfl rfl ?_
      refine cS2i (q := 42) (d' := d + 0) dX12_nearestLit_39 mlX12_207 moX12_isIn msX12_isIn rfl rfl (Nat.le_refl _) rfl rfl rfl (p_X12_isIn _ _ (lt4096 hsF hF12) (by omega)) (fun r3 m3 e3 => ?_)
      obtain ⟨rfl, rfl⟩ := e3
      refine Ev.if_eq (tgt := 47) (q := 45) dX12_nearestLit_42 (by decide) rfl (fun h4 => ?_) (fun h4 => ?_)
      · skip
        refine Ev.iload_n (q := 48) dX12_nearestLit_47 rfl rfl ?_
        refine Ev.iload_n (q := 49) dX12_nearestLit_48 rfl rfl ?_
        refine Ev.if_eq (tgt := 56) (q := 52) dX12_nearestLit_49 (by decide) rfl (fun h5 => ?_) (fun h5 => ?_)
        · skip
          omega
        · skip
          refine Ev.iconst (q := 53) dX12_nearestLit_52 ki_1 rfl ?_
          refine Ev.goto (q := 57) dX12_nearestLit_53 (by decide) ?_
          refine Ev.iadd (q := 58) dX12_nearestLit_57 rfl ?_
          refine istore_n_2 (q := 59) dX12_nearestLit_58 rfl rfl rfl ?_
          refine Ev.goto (q := 15) dX12_nearestLit_59 (by decide) ?_
          rw [w32_of (by omega) (by omega)]
          have hk := ih (f + 1) (by omega) (by omega)
          rw [show abv s (12 - f) f = abv s (12 - (f + 1)) (f + 1) by rw [show 12 - f = (12 - (f + 1)) + 1 by omega]; conv => lhs; unfold abv; rw [if_neg (by split at h2 <;> simp_all)]]
          exact hk
      · skip
        refine Ev.iload_n (q := 46) dX12_nearestLit_45 rfl rfl ?_
        refine rI dX12_nearestLit_46 rfl ?_
        refine ⟨?_, rfl⟩
        rw [show 12 - f = (12 - (f + 1)) + 1 by omega]
        unfold abv
        rw [if_pos (by split at h2 <;> simp_all)]
        rfl
