set_option maxRecDepth 4000 in
theorem l_near_dn {Γ : Gm} {d : Nat} {m : Mem} (h s F : Nat) (hh : m 211 19 = h) (hs : m 211 21 = s) (hF : m 212 1 = F) (hhF : h < F) (hF12 : F ≤ 12) (hsF : s < 2 ^ F) : ∀ (n : Nat), n ≤ h → Em Γ (d + 1) MX12_nearestLit (fun r m' => r = optI (blw s n) ∧ m' = m) 15 [rv 211, iv 0, iv ((n : Int) - 1)] [] m := by
  intro n
  induction n with
  | zero =>
    intro hn
    show Em Γ (d + 1) MX12_nearestLit _ 15 [rv 211, iv 0, iv (-1)] [] m
    refine Ev.iload_n (q := 16) dX12_nearestLit_15 rfl rfl ?_
    refine Ev.i2l (q := 17) dX12_nearestLit_16 rfl ?_
    refine Ev.lconst (q := 18) dX12_nearestLit_17 kj_0 rfl ?_
    refine Ev.aload_n (q := 19) dX12_nearestLit_18 rfl rfl ?_
    refine gR (q := 22) dX12_nearestLit_19 gfX12_13 k211 r211_1 rfl rfl ?_
    refine Ev.iconst (q := 23) dX12_nearestLit_22 ki_1 rfl ?_
    refine aI (q := 24) (k := 1) dX12_nearestLit_23 k212 (by rfl) (by decide) rfl ?_
    rw [hF]
    refine Ev.iconst (q := 25) dX12_nearestLit_24 ki_1 rfl ?_
    refine Ev.isub (q := 26) dX12_nearestLit_25 rfl ?_
    refine Ev.i2l (q := 27) dX12_nearestLit_26 rfl ?_
    rw [w32_of (by omega) (by omega)]
    refine cS3i (q := 30) (d' := d + 0) dX12_nearestLit_27 mlX12_118 moX12_within msX12_within rfl rfl (Nat.le_refl _) rfl rfl rfl (p_X12_within _ _ _) (fun r1 m1 e1 => ?_)
    obtain ⟨rfl, rfl⟩ := e1
    refine Ev.if_eq (tgt := 62) (q := 33) dX12_nearestLit_30 (by decide) rfl (fun h2 => ?_) (fun h2 => ?_)
    · skip
      refine Ev.iconst (q := 63) dX12_nearestLit_62 ki_m1 rfl ?_
      refine rI dX12_nearestLit_63 rfl ?_
      exact ⟨rfl, rfl⟩
    · skip
      split at h2 <;> omega
  | succ n ih =>
    intro hn
    rw [show (((n + 1 : Nat) : Int) - 1) = ((n : Nat) : Int) by omega]
    refine Ev.iload_n (q := 16) dX12_nearestLit_15 rfl rfl ?_
    refine Ev.i2l (q := 17) dX12_nearestLit_16 rfl ?_
    refine Ev.lconst (q := 18) dX12_nearestLit_17 kj_0 rfl ?_
    refine Ev.aload_n (q := 19) dX12_nearestLit_18 rfl rfl ?_
    refine gR (q := 22) dX12_nearestLit_19 gfX12_13 k211 r211_1 rfl rfl ?_
    refine Ev.iconst (q := 23) dX12_nearestLit_22 ki_1 rfl ?_
    refine aI (q := 24) (k := 1) dX12_nearestLit_23 k212 (by rfl) (by decide) rfl ?_
    rw [hF]
    refine Ev.iconst (q := 25) dX12_nearestLit_24 ki_1 rfl ?_
    refine Ev.isub (q := 26) dX12_nearestLit_25 rfl ?_
    refine Ev.i2l (q := 27) dX12_nearestLit_26 rfl ?_
    rw [w32_of (by omega) (by omega)]
    refine cS3i (q := 30) (d' := d + 0) dX12_nearestLit_27 mlX12_118 moX12_within msX12_within rfl rfl (Nat.le_refl _) rfl rfl rfl (p_X12_within _ _ _) (fun r1 m1 e1 => ?_)
    obtain ⟨rfl, rfl⟩ := e1
    refine Ev.if_eq (tgt := 62) (q := 33) dX12_nearestLit_30 (by decide) rfl (fun h2 => ?_) (fun h2 => ?_)
    · skip
      split at h2 <;> omega
    · skip
      refine Ev.aload_n (q := 34) dX12_nearestLit_33 rfl rfl ?_
      refine gI (q := 37) dX12_nearestLit_34 gfX12_200 k211 rfl rfl ?_
      rw [hs]
      refine Ev.i2l (q := 38) dX12_nearestLit_37 rfl ?_
      refine Ev.iload_n (q := 39) dX12_nearestLit_38 rfl rfl ?_
      refine cS2i (q := 42) (d' := d + 0) dX12_nearestLit_39 mlX12_207 moX12_isIn msX12_isIn rfl rfl (Nat.le_refl _) rfl rfl rfl (p_X12_isIn _ _ (lt4096 hsF hF12) (by omega)) (fun r3 m3 e3 => ?_)
      obtain ⟨rfl, rfl⟩ := e3
      refine Ev.if_eq (tgt := 47) (q := 45) dX12_nearestLit_42 (by decide) rfl (fun h4 => ?_) (fun h4 => ?_)
      · skip
        refine Ev.iload_n (q := 48) dX12_nearestLit_47 rfl rfl ?_
        refine Ev.iload_n (q := 49) dX12_nearestLit_48 rfl rfl ?_
        refine Ev.if_eq (tgt := 56) (q := 52) dX12_nearestLit_49 (by decide) rfl (fun h5 => ?_) (fun h5 => ?_)
        · skip
          refine Ev.iconst (q := 57) dX12_nearestLit_56 ki_m1 rfl ?_
          refine Ev.iadd (q := 58) dX12_nearestLit_57 rfl ?_
          refine istore_n_2 (q := 59) dX12_nearestLit_58 rfl rfl rfl ?_
          refine Ev.goto (q := 15) dX12_nearestLit_59 (by decide) ?_
          rw [show w32 (((n : Nat) : Int) + (-1)) = ((n : Nat) : Int) - 1 by rw [w32_of (by omega) (by omega)]; omega]
          have hk := ih (by omega)
          rw [show blw s (n + 1) = blw s n by conv => lhs; unfold blw; rw [if_neg (by split at h4 <;> simp_all)]]
          exact hk
        · skip
          omega
      · skip
        refine Ev.iload_n (q := 46) dX12_nearestLit_45 rfl rfl ?_
        refine rI dX12_nearestLit_46 rfl ?_
        refine ⟨?_, rfl⟩
        unfold blw
        rw [if_pos (by split at h4 <;> simp_all)]
        rfl
set_option maxRecDepth 4000 in
theorem p_X12_nearestLit {Γ : Gm} {d : Nat} {m : Mem} (u : Bool) (h s F : Nat) (hh : m 211 19 = h) (hs : m 211 21 = s) (hF : m 212 1 = F) (hhF : h < F) (hF12 : F ≤ 12) (hsF : s < 2 ^ F) : Ci Γ (d + 1) MX12_nearestLit [rv 211, iv (if u = true then 1 else 0)] m (fun r m' => r = optI (if u = true then above s h else blw s h) ∧ m' = m) := by
  refine Ci.of moX12_nearestLit rfl rfl (fun hA hM => ?_)
  cases u
  · show Em Γ (d + 1) MX12_nearestLit (fun r m' => r = optI (blw s h) ∧ m' = m) 0 [rv 211, iv 0, uv] [] m
    refine Ev.aload_n (q := 1) dX12_nearestLit_0 rfl rfl ?_
    refine gI (q := 4) dX12_nearestLit_1 gfX12_194 k211 rfl rfl ?_
    refine Ev.iload_n (q := 5) dX12_nearestLit_4 rfl rfl ?_
    refine Ev.if_eq (tgt := 12) (q := 8) dX12_nearestLit_5 (by decide) rfl (fun h1 => ?_) (fun h1 => ?_)
    · skip
      refine Ev.iconst (q := 13) dX12_nearestLit_12 ki_m1 rfl ?_
      rw [hh]
      refine Ev.iadd (q := 14) dX12_nearestLit_13 rfl ?_
      refine istore_n_2 (q := 15) dX12_nearestLit_14 rfl rfl rfl ?_
      rw [show w32 ((h : Int) + (-1)) = (h : Int) - 1 by rw [w32_of (by omega) (by omega)]; omega]
      exact l_near_dn (Γ := Γ) (d := d) h s F hh hs hF hhF hF12 hsF h (Nat.le_refl _)
    · skip
      omega
  · show Em Γ (d + 1) MX12_nearestLit (fun r m' => r = optI (above s h) ∧ m' = m) 0 [rv 211, iv 1, uv] [] m
    refine Ev.aload_n (q := 1) dX12_nearestLit_0 rfl rfl ?_
    refine gI (q := 4) dX12_nearestLit_1 gfX12_194 k211 rfl rfl ?_
    refine Ev.iload_n (q := 5) dX12_nearestLit_4 rfl rfl ?_
    refine Ev.if_eq (tgt := 12) (q := 8) dX12_nearestLit_5 (by decide) rfl (fun h1 => ?_) (fun h1 => ?_)
    · skip
      omega
    · skip
      refine Ev.iconst (q := 9) dX12_nearestLit_8 ki_1 rfl ?_
      refine Ev.goto (q := 13) dX12_nearestLit_9 (by decide) ?_
      rw [hh]
      refine Ev.iadd (q := 14) dX12_nearestLit_13 rfl ?_
      refine istore_n_2 (q := 15) dX12_nearestLit_14 rfl rfl rfl ?_
      rw [w32_of (by omega) (by omega)]
      have hk := l_near_up (Γ := Γ) (d := d) h s F hh hs hF hhF hF12 hsF (F - (h + 1)) (h + 1) (by omega) (by omega)
      rw [show 12 - (h + 1) = 11 - h by omega] at hk
      exact hk
set_option maxRecDepth 4000 in
theorem p_X12_nextStop {Γ : Gm} {d : Nat} {m : Mem} (u : Bool) (h s F : Nat) (hh : m 211 19 = h) (hs : m 211 21 = s) (hF : m 212 1 = F) (hhF : h < F) (hF12 : F ≤ 12) (hsF : s < 2 ^ F) (hu : m 211 23 = (if u = true then 1 else 0)) : Ci Γ (d + 2) MX12_nextStop [rv 211] m (fun r m' => r = optI (nxt s h u) ∧ m' = m) := by
  refine Ci.of moX12_nextStop rfl rfl (fun hA hM => ?_)
  show Em Γ (d + 2) MX12_nextStop _ 0 [rv 211, uv] [] m
  refine Ev.aload_n (q := 1) dX12_nextStop_0 rfl rfl ?_
  refine Ev.aload_n (q := 2) dX12_nextStop_1 rfl rfl ?_
  refine gI (q := 5) dX12_nextStop_2 gfX12_203 k211 rfl rfl ?_
  rw [hu]
  refine cV1i (q := 8) (d' := d + 1) dX12_nextStop_5 mlX12_211 moX12_nearestLit mvX12_nearestLit k211 rfl rfl rfl (Nat.le_refl _) rfl rfl rfl (p_X12_nearestLit u h s F hh hs hF hhF hF12 hsF) (fun r1 m1 e1 => ?_)
  obtain ⟨rfl, rfl⟩ := e1
  refine istore_n_1 (q := 9) dX12_nextStop_8 rfl rfl rfl ?_
  refine Ev.iload_n (q := 10) dX12_nextStop_9 rfl rfl ?_
  refine Ev.iconst (q := 11) dX12_nextStop_10 ki_m1 rfl ?_
  refine Ev.icmp_ne (tgt := 33) (q := 14) dX12_nextStop_11 (by decide) rfl (fun h2 => ?_) (fun h2 => ?_)
  · skip
    refine Ev.iload_n (q := 34) dX12_nextStop_33 rfl rfl ?_
    refine rI dX12_nextStop_34 rfl ?_
    refine ⟨?_, rfl⟩
    unfold nxt
    cases u <;> simp only [if_true, if_false, Bool.false_eq_true] at *
    · cases hq : blw s h <;> simp_all [optI]
    · cases hq : above s h <;> simp_all [optI]
  · skip
    refine Ev.aload_n (q := 15) dX12_nextStop_14 rfl rfl ?_
    refine Ev.aload_n (q := 16) dX12_nextStop_15 rfl rfl ?_
    refine gI (q := 19) dX12_nextStop_16 gfX12_203 k211 rfl rfl ?_
    rw [hu]
    refine Ev.if_ne (tgt := 26) (q := 22) dX12_nextStop_19 (by decide) rfl (fun h3 => ?_) (fun h3 => ?_)
    · skip
      have hu9 : u = true := by cases u <;> simp_all
      subst hu9
      refine Ev.iconst (q := 27) dX12_nextStop_26 ki_0 rfl ?_
      refine cV1i (q := 30) (d' := d + 1) dX12_nextStop_27 mlX12_211 moX12_nearestLit mvX12_nearestLit k211 rfl rfl rfl (Nat.le_refl _) rfl rfl rfl (by first | exact p_X12_nearestLit false h s F hh hs hF hhF hF12 hsF | exact p_X12_nearestLit true h s F hh hs hF hhF hF12 hsF) (fun r4 m4 e4 => ?_)
      obtain ⟨e4, rfl⟩ := e4
      subst e4
      refine Ev.goto (q := 34) dX12_nextStop_30 (by decide) ?_
      refine rI dX12_nextStop_34 rfl ?_
      refine ⟨?_, rfl⟩
      unfold nxt
      simp only [if_true] at *
      cases hq : above s h <;> simp_all [optI]
    · skip
      have hu9 : u = false := by cases u <;> simp_all
      subst hu9
      refine Ev.iconst (q := 23) dX12_nextStop_22 ki_1 rfl ?_
      refine Ev.goto (q := 27) dX12_nextStop_23 (by decide) ?_
      refine cV1i (q := 30) (d' := d + 1) dX12_nextStop_27 mlX12_211 moX12_nearestLit mvX12_nearestLit k211 rfl rfl rfl (Nat.le_refl _) rfl rfl rfl (by first | exact p_X12_nearestLit false h s F hh hs hF hhF hF12 hsF | exact p_X12_nearestLit true h s F hh hs hF hhF hF12 hsF) (fun r5 m5 e5 => ?_)
      obtain ⟨e5, rfl⟩ := e5
      subst e5
      refine Ev.goto (q := 34) dX12_nextStop_30 (by decide) ?_
      refine rI dX12_nextStop_34 rfl ?_
      refine ⟨?_, rfl⟩
      unfold nxt
      simp only [if_false, Bool.false_eq_true] at *
      cases hq : blw s h <;> simp_all [optI]
