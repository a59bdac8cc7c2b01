/-! ===== the reference: reading, small things ===== -/
def sPq (a k : Nat) : Bool := (a == 211 && (k == 6 || k == 7 || k == 9 || k == 10 || k == 11 || k == 12)) || a == 215
theorem sPq_s {a k : Nat} (h : sPs a k = false) : sPq a k = false := by
  unfold sPs at h; unfold sPq
  simp at h ⊢
  refine ⟨fun h1 => ?_, h.2⟩
  have := h.1 h1
  simp_all
theorem sPq_Tk {a k : Nat} (h : sPq a k = false) : sTk a k = false := by
  unfold sPq at h; unfold sTk
  simp at h ⊢
  intro h1
  have := h.1 h1
  simp_all
theorem Fr.pq {m m' : Mem} (h : Fr sTk m m') : Fr sPq m m' := h.mono (fun a k q => sPq_Tk q)
theorem TX.q {m m' : Mem} {tx : Nat → Int} {N : Nat} (h : TX m tx N) (hf : Fr sPq m m') : TX m' tx N := ⟨by rw [hf 211 8 rfl]; exact h.1, by rw [hf.row 214 (fun _ => rfl)]; exact h.2⟩
/-- where reading stands: well, or with a fault -/
def PT (m : Mem) (f : Row) (x : Er Tok) : Prop := match x with
  | .inl e => BDm m e
  | .inr t => OKm m t f
def PN1 (r : Int) (m : Mem) (f : Row) (x : Er (Int × Tok)) : Prop := match x with
  | .inl e => BDm m e
  | .inr a => r = a.1 ∧ OKm m a.2 f
def PC (m : Mem) (f : Row) (x : Er (List Int × Tok)) : Prop := match x with
  | .inl e => BDm m e
  | .inr a => OKm m a.2 (apC f a.1)
theorem apC_app (f : Row) (a b : List Int) : apC f (a ++ b) = apC (apC f a) b := by
  induction a generalizing f with
  | nil => rfl
  | cons c cs ih => exact ih _
theorem apC_457 {f : Row} (cs : List Int) : apC f cs 457 = f 457 + cs.length := by
  induction cs generalizing f with
  | nil => show f 457 = f 457 + ((0 : Nat) : Int); omega
  | cons c cs ih =>
    show apC (upg (upg f (458 + (f 457).toNat) c) 457 (f 457 + 1)) cs 457 = _
    rw [ih, upg_eq, List.length_cons]
    omega
theorem apC_lo {f : Row} (cs : List Int) {j : Nat} (hj : j < 457) : apC f cs j = f j := by
  induction cs generalizing f with
  | nil => rfl
  | cons c cs ih =>
    show apC (upg (upg f (458 + (f 457).toNat) c) 457 (f 457 + 1)) cs j = _
    rw [ih, upg_ne _ _ (by omega), upg_ne _ _ (by omega)]
theorem OKm_nx {m m' : Mem} {tx : Nat → Int} {N : Nat} {t : Tok} {f : Row} (h : OKm m t f) (hk : TkM m' (nxS tx N t)) (hf : Fr sTk m m') : OKm m' (nxS tx N t) f := ⟨by rw [hf 211 11 rfl]; exact h.1, hk, by rw [hf.row 215 (fun _ => rfl)]; exact h.2.2⟩
set_option maxRecDepth 4000 in
theorem p_X12_fails {Γ : Gm} {d : Nat} {m : Mem} (t : Tok) (f : Row) (k : Int) (hk : ¬ k = 0) (h : OKm m t f) : Ci Γ (d + 0) MX12_fails [rv 211, iv k] m (fun r m' => BDm m' ((if t.1 = 25 then 1 else k), t.2.1) ∧ Fr sPq m m') := by
  refine Ci.of moX12_fails rfl rfl (fun hA hM => ?_)
  show Em Γ (d + 0) MX12_fails _ 0 [rv 211, iv k] [] m
  refine Ev.aload_n (q := 1) dX12_fails_0 rfl rfl ?_
  refine gI (q := 4) dX12_fails_1 gfX12_102 k211 rfl rfl ?_
  rw [h.1]
  refine Ev.if_eq (tgt := 8) (q := 7) dX12_fails_4 (by decide) rfl (fun h1 => ?_) (fun h1 => ?_)
  · skip
    refine Ev.aload_n (q := 9) dX12_fails_8 rfl rfl ?_
    refine Ev.aload_n (q := 10) dX12_fails_9 rfl rfl ?_
    refine gI (q := 13) dX12_fails_10 gfX12_84 k211 rfl rfl ?_
    refine Ev.bipush (q := 15) dX12_fails_13 kb_25 rfl ?_
    rw [h.2.1.1]
    refine Ev.icmp_ne (tgt := 22) (q := 18) dX12_fails_15 (by decide) rfl (fun h2 => ?_) (fun h2 => ?_)
    · skip
      refine Ev.iload_n (q := 23) dX12_fails_22 rfl rfl ?_
      refine pI (q := 26) dX12_fails_23 gfX12_102 k211 rfl rfl ?_
      refine Ev.aload_n (q := 27) dX12_fails_26 rfl rfl ?_
      refine Ev.aload_n (q := 28) dX12_fails_27 rfl rfl ?_
      refine gI (q := 31) dX12_fails_28 gfX12_74 k211 rfl rfl ?_
      rw [up_k _ _ (by decide), h.2.1.2.1]
      refine pI (q := 34) dX12_fails_31 gfX12_105 k211 rfl rfl ?_
      refine rV dX12_fails_34 rfl ?_
      refine ⟨⟨?_, by show ¬ (if t.1 = 25 then (1 : Int) else k) = 0; split <;> omega, up_eq _ _ _ _⟩, ((Fr.rf _ _).up rfl).up rfl⟩
      rw [up_k _ _ (by decide), up_eq, if_neg (by assumption)]
    · skip
      refine Ev.iconst (q := 19) dX12_fails_18 ki_1 rfl ?_
      refine Ev.goto (q := 23) dX12_fails_19 (by decide) ?_
      refine pI (q := 26) dX12_fails_23 gfX12_102 k211 rfl rfl ?_
      refine Ev.aload_n (q := 27) dX12_fails_26 rfl rfl ?_
      refine Ev.aload_n (q := 28) dX12_fails_27 rfl rfl ?_
      refine gI (q := 31) dX12_fails_28 gfX12_74 k211 rfl rfl ?_
      rw [up_k _ _ (by decide), h.2.1.2.1]
      refine pI (q := 34) dX12_fails_31 gfX12_105 k211 rfl rfl ?_
      refine rV dX12_fails_34 rfl ?_
      refine ⟨⟨?_, by show ¬ (if t.1 = 25 then (1 : Int) else k) = 0; split <;> omega, up_eq _ _ _ _⟩, ((Fr.rf _ _).up rfl).up rfl⟩
      rw [up_k _ _ (by decide), up_eq, if_pos (by assumption)]
  · skip
    omega
set_option maxRecDepth 4000 in
theorem p_X12_fails_bd {Γ : Gm} {d : Nat} {m : Mem} (e : Int × Nat) (k : Int) (h : BDm m e) : Ci Γ (d + 0) MX12_fails [rv 211, iv k] m (fun r m' => m' = m) := by
  refine Ci.of moX12_fails rfl rfl (fun hA hM => ?_)
  show Em Γ (d + 0) MX12_fails _ 0 [rv 211, iv k] [] m
  refine Ev.aload_n (q := 1) dX12_fails_0 rfl rfl ?_
  refine gI (q := 4) dX12_fails_1 gfX12_102 k211 rfl rfl ?_
  rw [h.1]
  refine Ev.if_eq (tgt := 8) (q := 7) dX12_fails_4 (by decide) rfl (fun h1 => ?_) (fun h1 => ?_)
  · skip
    exact absurd (by assumption) h.2.1
  · skip
    refine rV dX12_fails_7 rfl ?_
    rfl
set_option maxRecDepth 4000 in
theorem p_X12_is {Γ : Gm} {d : Nat} {m : Mem} (k : Int) : Ci Γ (d + 0) MX12_is [rv 211, iv k] m (fun r m' => r = (if m 211 11 = 0 ∧ m 211 9 = k then 1 else 0) ∧ m' = m) := by
  refine Ci.of moX12_is rfl rfl (fun hA hM => ?_)
  show Em Γ (d + 0) MX12_is _ 0 [rv 211, iv k] [] m
  refine Ev.aload_n (q := 1) dX12_is_0 rfl rfl ?_
  refine gI (q := 4) dX12_is_1 gfX12_102 k211 rfl rfl ?_
  refine Ev.if_ne (tgt := 19) (q := 7) dX12_is_4 (by decide) rfl (fun h1 => ?_) (fun h1 => ?_)
  · skip
    refine Ev.iconst (q := 20) dX12_is_19 ki_0 rfl ?_
    refine rZ dX12_is_20 rfl (by decide) ?_
    exact ⟨by split <;> first | rfl | omega, rfl⟩
  · skip
    refine Ev.aload_n (q := 8) dX12_is_7 rfl rfl ?_
    refine gI (q := 11) dX12_is_8 gfX12_84 k211 rfl rfl ?_
    refine Ev.iload_n (q := 12) dX12_is_11 rfl rfl ?_
    refine Ev.icmp_ne (tgt := 19) (q := 15) dX12_is_12 (by decide) rfl (fun h2 => ?_) (fun h2 => ?_)
    · skip
      refine Ev.iconst (q := 20) dX12_is_19 ki_0 rfl ?_
      refine rZ dX12_is_20 rfl (by decide) ?_
      exact ⟨by split <;> first | rfl | omega, rfl⟩
    · skip
      refine Ev.iconst (q := 16) dX12_is_15 ki_1 rfl ?_
      refine Ev.goto (q := 20) dX12_is_16 (by decide) ?_
      refine rZ dX12_is_20 rfl (by decide) ?_
      exact ⟨by split <;> first | rfl | omega, rfl⟩
theorem is_ok {m : Mem} {t : Tok} {f : Row} (h : OKm m t f) (k : Int) : (if m 211 11 = 0 ∧ m 211 9 = k then (1 : Int) else 0) = if t.1 = k then 1 else 0 := by rw [h.1, h.2.1.1]; simp
theorem is_bd {m : Mem} {e : Int × Nat} (h : BDm m e) (k : Int) : (if m 211 11 = 0 ∧ m 211 9 = k then (1 : Int) else 0) = 0 := by rw [if_neg]; rw [h.1]; exact fun z => h.2.1 z.1
set_option maxRecDepth 4000 in
theorem p_X12_eats {Γ : Gm} {d : Nat} {m : Mem} (tx : Nat → Int) (N : Nat) (t : Tok) (f : Row) (k : Int) (hN : N ≤ 900) (hX : TX m tx N) (hO : tOK tx N t) (h : OKm m t f) : Ci Γ (d + 6) MX12_eats [rv 211, iv k] m (fun r m' => (t.1 = k → r = 1 ∧ OKm m' (nxS tx N t) f ∧ Fr sPq m m') ∧ (¬ t.1 = k → r = 0 ∧ m' = m)) := by
  refine Ci.of moX12_eats rfl rfl (fun hA hM => ?_)
  show Em Γ (d + 6) MX12_eats _ 0 [rv 211, iv k] [] m
  refine Ev.aload_n (q := 1) dX12_eats_0 rfl rfl ?_
  refine Ev.iload_n (q := 2) dX12_eats_1 rfl rfl ?_
  refine cV1i (q := 5) (d' := d + 5) dX12_eats_2 mlX12_108 moX12_is mvX12_is k211 rfl rfl rfl (Nat.le_refl _) rfl rfl rfl (p_X12_is k) (fun r1 m1 e1 => ?_)
  obtain ⟨rfl, e1⟩ := e1
  obtain rfl := e1.symm
  rw [is_ok h]
  refine Ev.if_ne (tgt := 10) (q := 8) dX12_eats_5 (by decide) rfl (fun h2 => ?_) (fun h2 => ?_)
  · skip
    refine Ev.aload_n (q := 11) dX12_eats_10 rfl rfl ?_
    refine cV0v (q := 14) (d' := d + 5) dX12_eats_11 mlX12_111 moX12_next mvX12_next k211 rfl rfl rfl (Nat.le_refl _) rfl rfl rfl (p_X12_next N t.2.2.1 hN hO.2.1 hX.1 h.2.1.2.2.1) (fun r3 m3 e3 => ?_)
    obtain ⟨M9, rfl⟩ : ∃ M9, M9 = m3 := ⟨_, rfl⟩
    obtain ⟨y1, y2⟩ := e3
    rw [hX.2] at y1
    have y3 := OKm_nx h (show TkM M9 (nxS tx N t) from y1) y2
    refine Ev.iconst (q := 15) dX12_eats_14 ki_1 rfl ?_
    refine rZ dX12_eats_15 rfl (by decide) ?_
    exact ⟨fun _ => ⟨rfl, y3, y2.pq⟩, fun z => absurd (by split at h2 <;> omega) z⟩
  · skip
    refine Ev.iconst (q := 9) dX12_eats_8 ki_0 rfl ?_
    refine rZ dX12_eats_9 rfl (by decide) ?_
    exact ⟨fun z => absurd z (by split at h2 <;> omega), fun _ => ⟨rfl, rfl⟩⟩
set_option maxRecDepth 4000 in
theorem p_X12_eats_bd {Γ : Gm} {d : Nat} {m : Mem} (e : Int × Nat) (k : Int) (h : BDm m e) : Ci Γ (d + 1) MX12_eats [rv 211, iv k] m (fun r m' => r = 0 ∧ m' = m) := by
  refine Ci.of moX12_eats rfl rfl (fun hA hM => ?_)
  show Em Γ (d + 1) MX12_eats _ 0 [rv 211, iv k] [] m
  refine Ev.aload_n (q := 1) dX12_eats_0 rfl rfl ?_
  refine Ev.iload_n (q := 2) dX12_eats_1 rfl rfl ?_
  refine cV1i (q := 5) (d' := d + 0) dX12_eats_2 mlX12_108 moX12_is mvX12_is k211 rfl rfl rfl (Nat.le_refl _) rfl rfl rfl (p_X12_is k) (fun r1 m1 e1 => ?_)
  obtain ⟨rfl, e1⟩ := e1
  obtain rfl := e1.symm
  rw [is_bd h]
  refine Ev.if_ne (tgt := 10) (q := 8) dX12_eats_5 (by decide) rfl (fun h2 => ?_) (fun h2 => ?_)
  · skip
    omega
  · skip
    refine Ev.iconst (q := 9) dX12_eats_8 ki_0 rfl ?_
    refine rZ dX12_eats_9 rfl (by decide) ?_
    exact ⟨rfl, rfl⟩
set_option maxRecDepth 4000 in
theorem p_X12_takes {Γ : Gm} {d : Nat} {m : Mem} (tx : Nat → Int) (N : Nat) (t : Tok) (f : Row) (lo hi : Int) (hN : N ≤ 900) (hX : TX m tx N) (hO : tOK tx N t) (h : OKm m t f) : Ci Γ (d + 6) MX12_takes [rv 211, iv lo, iv hi] m (fun r m' => PN1 r m' f (nuS tx N lo hi t) ∧ Fr sPq m m') := by
  refine Ci.of moX12_takes rfl rfl (fun hA hM => ?_)
  show Em Γ (d + 6) MX12_takes _ 0 [rv 211, iv lo, iv hi, uv] [] m
  refine Ev.aload_n (q := 1) dX12_takes_0 rfl rfl ?_
  refine Ev.bipush (q := 3) dX12_takes_1 kb_23 rfl ?_
  refine cV1i (q := 6) (d' := d + 5) dX12_takes_3 mlX12_108 moX12_is mvX12_is k211 rfl rfl rfl (Nat.le_refl _) rfl rfl rfl (p_X12_is 23) (fun r1 m1 e1 => ?_)
  obtain ⟨rfl, e1⟩ := e1
  obtain rfl := e1.symm
  rw [is_ok h]
  refine Ev.if_ne (tgt := 17) (q := 9) dX12_takes_6 (by decide) rfl (fun h2 => ?_) (fun h2 => ?_)
  · skip
    have hk : t.1 = 23 := by split at h2 <;> omega
    have hnum : m 211 10 = t.2.2.2 := h.2.1.2.2.2 hk
    refine Ev.aload_n (q := 18) dX12_takes_17 rfl rfl ?_
    refine gI (q := 21) dX12_takes_18 gfX12_97 k211 rfl rfl ?_
    rw [hnum]
    refine Ev.i2l (q := 22) dX12_takes_21 rfl ?_
    refine Ev.iload_n (q := 23) dX12_takes_22 rfl rfl ?_
    refine Ev.i2l (q := 24) dX12_takes_23 rfl ?_
    refine Ev.iload_n (q := 25) dX12_takes_24 rfl rfl ?_
    refine Ev.i2l (q := 26) dX12_takes_25 rfl ?_
    refine cS3i (q := 29) (d' := d + 5) dX12_takes_26 mlX12_118 moX12_within msX12_within rfl rfl (Nat.le_refl _) rfl rfl rfl (p_X12_within _ _ _) (fun r3 m3 e3 => ?_)
    obtain ⟨rfl, e3⟩ := e3
    obtain rfl := e3.symm
    refine Ev.if_ne (tgt := 37) (q := 32) dX12_takes_29 (by decide) rfl (fun h4 => ?_) (fun h4 => ?_)
    · skip
      have hw : lo ≤ t.2.2.2 ∧ t.2.2.2 ≤ hi := by split at h4 <;> omega
      have hu : nuS tx N lo hi t = .inr (t.2.2.2, nxS tx N t) := by unfold nuS; rw [if_pos hk, if_pos hw]
      rw [hu]
      refine Ev.aload_n (q := 38) dX12_takes_37 rfl rfl ?_
      refine gI (q := 41) dX12_takes_38 gfX12_97 k211 rfl rfl ?_
      rw [hnum]
      refine istore_n_3 (q := 42) dX12_takes_41 rfl rfl rfl ?_
      refine Ev.aload_n (q := 43) dX12_takes_42 rfl rfl ?_
      refine gI (q := 46) dX12_takes_43 gfX12_102 k211 rfl rfl ?_
      rw [h.1]
      refine Ev.if_ne (tgt := 53) (q := 49) dX12_takes_46 (by decide) rfl (fun h21 => ?_) (fun h21 => ?_)
      · skip
        omega
      · skip
        refine Ev.aload_n (q := 50) dX12_takes_49 rfl rfl ?_
        refine cV0v (q := 53) (d' := d + 5) dX12_takes_50 mlX12_111 moX12_next mvX12_next k211 rfl rfl rfl (Nat.le_refl _) rfl rfl rfl (p_X12_next N t.2.2.1 hN hO.2.1 hX.1 h.2.1.2.2.1) (fun r22 m22 e22 => ?_)
        obtain ⟨M9, rfl⟩ : ∃ M9, M9 = m22 := ⟨_, rfl⟩
        obtain ⟨y1, y2⟩ := e22
        rw [hX.2] at y1
        have y3 := OKm_nx h (show TkM M9 (nxS tx N t) from y1) y2
        refine Ev.iload_n (q := 54) dX12_takes_53 rfl rfl ?_
        refine rI dX12_takes_54 rfl ?_
        exact ⟨⟨rfl, y3⟩, y2.pq⟩
    · skip
      have hw : ¬ (lo ≤ t.2.2.2 ∧ t.2.2.2 ≤ hi) := by split at h4 <;> omega
      have hu : nuS tx N lo hi t = flS t 3 := by unfold nuS; rw [if_pos hk, if_neg hw]
      rw [hu]
      refine Ev.aload_n (q := 33) dX12_takes_32 rfl rfl ?_
      refine Ev.iconst (q := 34) dX12_takes_33 ki_3 rfl ?_
      refine cV1v (q := 37) (d' := d + 5) dX12_takes_34 mlX12_114 moX12_fails mvX12_fails k211 rfl rfl rfl (Nat.le_refl _) rfl rfl rfl (p_X12_fails t f 3 (by decide) h) (fun r5 m5 e5 => ?_)
      obtain ⟨hb, hf⟩ := e5
      obtain ⟨M9, rfl⟩ : ∃ M9, M9 = m5 := ⟨_, rfl⟩
      refine Ev.aload_n (q := 38) dX12_takes_37 rfl rfl ?_
      refine gI (q := 41) dX12_takes_38 gfX12_97 k211 rfl rfl ?_
      refine istore_n_3 (q := 42) dX12_takes_41 rfl rfl rfl ?_
      refine Ev.aload_n (q := 43) dX12_takes_42 rfl rfl ?_
      refine gI (q := 46) dX12_takes_43 gfX12_102 k211 rfl rfl ?_
      rw [hb.1]
      refine Ev.if_ne (tgt := 53) (q := 49) dX12_takes_46 (by decide) rfl (fun h21 => ?_) (fun h21 => ?_)
      · skip
        refine Ev.iload_n (q := 54) dX12_takes_53 rfl rfl ?_
        refine rI dX12_takes_54 rfl ?_
        exact ⟨hb, hf⟩
      · skip
        exact absurd (by assumption) hb.2.1
  · skip
    have hk : ¬ t.1 = 23 := by split at h2 <;> omega
    have hu : nuS tx N lo hi t = flS t 2 := by unfold nuS; rw [if_neg hk]
    rw [hu]
    refine Ev.aload_n (q := 10) dX12_takes_9 rfl rfl ?_
    refine Ev.iconst (q := 11) dX12_takes_10 ki_2 rfl ?_
    refine cV1v (q := 14) (d' := d + 5) dX12_takes_11 mlX12_114 moX12_fails mvX12_fails k211 rfl rfl rfl (Nat.le_refl _) rfl rfl rfl (p_X12_fails t f 2 (by decide) h) (fun r6 m6 e6 => ?_)
    obtain ⟨hb, hf⟩ := e6
    obtain ⟨M9, rfl⟩ : ∃ M9, M9 = m6 := ⟨_, rfl⟩
    refine Ev.goto (q := 37) dX12_takes_14 (by decide) ?_
    refine Ev.aload_n (q := 38) dX12_takes_37 rfl rfl ?_
    refine gI (q := 41) dX12_takes_38 gfX12_97 k211 rfl rfl ?_
    refine istore_n_3 (q := 42) dX12_takes_41 rfl rfl rfl ?_
    refine Ev.aload_n (q := 43) dX12_takes_42 rfl rfl ?_
    refine gI (q := 46) dX12_takes_43 gfX12_102 k211 rfl rfl ?_
    rw [hb.1]
    refine Ev.if_ne (tgt := 53) (q := 49) dX12_takes_46 (by decide) rfl (fun h21 => ?_) (fun h21 => ?_)
    · skip
      refine Ev.iload_n (q := 54) dX12_takes_53 rfl rfl ?_
      refine rI dX12_takes_54 rfl ?_
      exact ⟨hb, hf⟩
    · skip
      exact absurd (by assumption) hb.2.1
set_option maxRecDepth 4000 in
theorem p_X12_takes_bd {Γ : Gm} {d : Nat} {m : Mem} (e : Int × Nat) (lo hi : Int) (h : BDm m e) : Ci Γ (d + 2) MX12_takes [rv 211, iv lo, iv hi] m (fun r m' => m' = m) := by
  refine Ci.of moX12_takes rfl rfl (fun hA hM => ?_)
  show Em Γ (d + 2) MX12_takes _ 0 [rv 211, iv lo, iv hi, uv] [] m
  refine Ev.aload_n (q := 1) dX12_takes_0 rfl rfl ?_
  refine Ev.bipush (q := 3) dX12_takes_1 kb_23 rfl ?_
  refine cV1i (q := 6) (d' := d + 1) dX12_takes_3 mlX12_108 moX12_is mvX12_is k211 rfl rfl rfl (Nat.le_refl _) rfl rfl rfl (p_X12_is 23) (fun r1 m1 e1 => ?_)
  obtain ⟨rfl, e1⟩ := e1
  obtain rfl := e1.symm
  rw [is_bd h]
  refine Ev.if_ne (tgt := 17) (q := 9) dX12_takes_6 (by decide) rfl (fun h2 => ?_) (fun h2 => ?_)
  · skip
    omega
  · skip
    refine Ev.aload_n (q := 10) dX12_takes_9 rfl rfl ?_
    refine Ev.iconst (q := 11) dX12_takes_10 ki_2 rfl ?_
    refine cV1v (q := 14) (d' := d + 1) dX12_takes_11 mlX12_114 moX12_fails mvX12_fails k211 rfl rfl rfl (Nat.le_refl _) rfl rfl rfl (p_X12_fails_bd e 2 h) (fun r3 m3 e3 => ?_)
    obtain rfl := (show _ = _ from e3).symm
    refine Ev.goto (q := 37) dX12_takes_14 (by decide) ?_
    refine Ev.aload_n (q := 38) dX12_takes_37 rfl rfl ?_
    refine gI (q := 41) dX12_takes_38 gfX12_97 k211 rfl rfl ?_
    refine istore_n_3 (q := 42) dX12_takes_41 rfl rfl rfl ?_
    refine Ev.aload_n (q := 43) dX12_takes_42 rfl rfl ?_
    refine gI (q := 46) dX12_takes_43 gfX12_102 k211 rfl rfl ?_
    rw [h.1]
    refine Ev.if_ne (tgt := 53) (q := 49) dX12_takes_46 (by decide) rfl (fun h4 => ?_) (fun h4 => ?_)
    · skip
      refine Ev.iload_n (q := 54) dX12_takes_53 rfl rfl ?_
      refine rI dX12_takes_54 rfl ?_
      rfl
    · skip
      exact absurd (by assumption) h.2.1
set_option maxRecDepth 4000 in
theorem p_X12_wordOf {Γ : Gm} {d : Nat} {m : Mem} (law : Nat) (k : Int) (h15 : m 211 15 = law) (hl : law < 2) : Ci Γ (d + 0) MX12_wordOf [rv 211, iv k] m (fun r m' => r = wdV law k ∧ m' = m) := by
  refine Ci.of moX12_wordOf rfl rfl (fun hA hM => ?_)
  show Em Γ (d + 0) MX12_wordOf _ 0 [rv 211, iv k] [] m
  refine Ev.iload_n (q := 1) dX12_wordOf_0 rfl rfl ?_
  refine Ev.bipush (q := 3) dX12_wordOf_1 kb_18 rfl ?_
  refine Ev.icmp_ne (tgt := 8) (q := 6) dX12_wordOf_3 (by decide) rfl (fun h1 => ?_) (fun h1 => ?_)
  · skip
    refine Ev.aload_n (q := 9) dX12_wordOf_8 rfl rfl ?_
    refine gI (q := 12) dX12_wordOf_9 gfX12_122 k211 rfl rfl ?_
    rw [h15]
    refine Ev.if_ne (tgt := 47) (q := 15) dX12_wordOf_12 (by decide) rfl (fun h2 => ?_) (fun h2 => ?_)
    · skip
      refine Ev.iload_n (q := 48) dX12_wordOf_47 rfl rfl ?_
      refine Ev.iconst (q := 49) dX12_wordOf_48 ki_5 rfl ?_
      refine Ev.icmp_ne (tgt := 56) (q := 52) dX12_wordOf_49 (by decide) rfl (fun h3 => ?_) (fun h3 => ?_)
      · skip
        refine Ev.iload_n (q := 57) dX12_wordOf_56 rfl rfl ?_
        refine Ev.iconst (q := 58) dX12_wordOf_57 ki_1 rfl ?_
        refine Ev.icmp_ne (tgt := 65) (q := 61) dX12_wordOf_58 (by decide) rfl (fun h4 => ?_) (fun h4 => ?_)
        · skip
          refine Ev.iconst (q := 66) dX12_wordOf_65 ki_m1 rfl ?_
          refine rI dX12_wordOf_66 rfl ?_
          refine ⟨?_, rfl⟩
          unfold wdV
          repeat (first | rfl | omega | split)
        · skip
          refine Ev.iconst (q := 62) dX12_wordOf_61 ki_5 rfl ?_
          refine Ev.goto (q := 66) dX12_wordOf_62 (by decide) ?_
          refine rI dX12_wordOf_66 rfl ?_
          refine ⟨?_, rfl⟩
          unfold wdV
          repeat (first | rfl | omega | split)
      · skip
        refine Ev.iconst (q := 53) dX12_wordOf_52 ki_4 rfl ?_
        refine Ev.goto (q := 66) dX12_wordOf_53 (by decide) ?_
        refine rI dX12_wordOf_66 rfl ?_
        refine ⟨?_, rfl⟩
        unfold wdV
        repeat (first | rfl | omega | split)
    · skip
      refine Ev.iload_n (q := 16) dX12_wordOf_15 rfl rfl ?_
      refine Ev.bipush (q := 18) dX12_wordOf_16 kb_17 rfl ?_
      refine Ev.icmp_ne (tgt := 25) (q := 21) dX12_wordOf_18 (by decide) rfl (fun h5 => ?_) (fun h5 => ?_)
      · skip
        refine Ev.iload_n (q := 26) dX12_wordOf_25 rfl rfl ?_
        refine Ev.bipush (q := 28) dX12_wordOf_26 kb_10 rfl ?_
        refine Ev.icmp_ne (tgt := 35) (q := 31) dX12_wordOf_28 (by decide) rfl (fun h6 => ?_) (fun h6 => ?_)
        · skip
          refine Ev.iload_n (q := 36) dX12_wordOf_35 rfl rfl ?_
          refine Ev.bipush (q := 38) dX12_wordOf_36 kb_11 rfl ?_
          refine Ev.icmp_ne (tgt := 45) (q := 41) dX12_wordOf_38 (by decide) rfl (fun h7 => ?_) (fun h7 => ?_)
          · skip
            refine Ev.iconst (q := 46) dX12_wordOf_45 ki_m1 rfl ?_
            refine rI dX12_wordOf_46 rfl ?_
            refine ⟨?_, rfl⟩
            unfold wdV
            repeat (first | rfl | omega | split)
          · skip
            refine Ev.iconst (q := 42) dX12_wordOf_41 ki_3 rfl ?_
            refine Ev.goto (q := 46) dX12_wordOf_42 (by decide) ?_
            refine rI dX12_wordOf_46 rfl ?_
            refine ⟨?_, rfl⟩
            unfold wdV
            repeat (first | rfl | omega | split)
        · skip
          refine Ev.iconst (q := 32) dX12_wordOf_31 ki_2 rfl ?_
          refine Ev.goto (q := 46) dX12_wordOf_32 (by decide) ?_
          refine rI dX12_wordOf_46 rfl ?_
          refine ⟨?_, rfl⟩
          unfold wdV
          repeat (first | rfl | omega | split)
      · skip
        refine Ev.iconst (q := 22) dX12_wordOf_21 ki_1 rfl ?_
        refine Ev.goto (q := 46) dX12_wordOf_22 (by decide) ?_
        refine rI dX12_wordOf_46 rfl ?_
        refine ⟨?_, rfl⟩
        unfold wdV
        repeat (first | rfl | omega | split)
  · skip
    refine Ev.iconst (q := 7) dX12_wordOf_6 ki_0 rfl ?_
    refine rI dX12_wordOf_7 rfl ?_
    refine ⟨?_, rfl⟩
    unfold wdV
    repeat (first | rfl | omega | split)
set_option maxRecDepth 4000 in
theorem p_X12_codes {Γ : Gm} {d : Nat} {m : Mem} (t : Tok) (f : Row) (c : Int) (n : Nat) (h : OKm m t f) (hf : f 457 = n) (hn : n < 900) : Ci Γ (d + 0) MX12_codes [rv 211, iv c] m (fun r m' => OKm m' t (apC f [c]) ∧ Fr sPq m m') := by
  refine Ci.of moX12_codes rfl rfl (fun hA hM => ?_)
  show Em Γ (d + 0) MX12_codes _ 0 [rv 211, iv c] [] m
  have e457 : m 215 457 = n := by rw [h.2.2]; exact hf
  refine Ev.aload_n (q := 1) dX12_codes_0 rfl rfl ?_
  refine gI (q := 4) dX12_codes_1 gfX12_102 k211 rfl rfl ?_
  rw [h.1]
  refine Ev.if_eq (tgt := 8) (q := 7) dX12_codes_4 (by decide) rfl (fun h1 => ?_) (fun h1 => ?_)
  · skip
    refine Ev.aload_n (q := 9) dX12_codes_8 rfl rfl ?_
    refine gR (q := 12) dX12_codes_9 gfX12_24 k211 r211_4 rfl rfl ?_
    refine Ev.sipush (q := 15) dX12_codes_12 kh_458 rfl ?_
    refine Ev.aload_n (q := 16) dX12_codes_15 rfl rfl ?_
    refine gR (q := 19) dX12_codes_16 gfX12_24 k211 r211_4 rfl rfl ?_
    refine Ev.sipush (q := 22) dX12_codes_19 kh_457 rfl ?_
    refine aI (q := 23) (k := 457) dX12_codes_22 k215 (by rfl) (by decide) rfl ?_
    rw [e457]
    refine Ev.iadd (q := 24) dX12_codes_23 rfl ?_
    refine Ev.iload_n (q := 25) dX12_codes_24 rfl rfl ?_
    refine sI (q := 26) (k := 458 + n) dX12_codes_25 k215 (by first | rfl | omega | (simp (disch := omega) only [w32_of]; omega)) (by omega) rfl ?_
    refine Ev.aload_n (q := 27) dX12_codes_26 rfl rfl ?_
    refine gR (q := 30) dX12_codes_27 gfX12_24 k211 r211_4 rfl rfl ?_
    refine Ev.sipush (q := 33) dX12_codes_30 kh_457 rfl ?_
    refine Ev.dup2 (q := 34) dX12_codes_33 (fun z => by cases z) (fun z => by cases z) rfl ?_
    refine aI (q := 35) (k := 457) dX12_codes_34 k215 (by rfl) (by decide) rfl ?_
    rw [up_k _ _ (by omega), e457]
    refine Ev.iconst (q := 36) dX12_codes_35 ki_1 rfl ?_
    refine Ev.iadd (q := 37) dX12_codes_36 rfl ?_
    refine sI (q := 38) (k := 457) dX12_codes_37 k215 (by rfl) (by decide) rfl ?_
    refine rV dX12_codes_38 rfl ?_
    refine ⟨⟨?_, ?_, ?_⟩, ((Fr.rf _ _).up rfl).up rfl⟩
    · rw [up_o _ _ (by decide), up_o _ _ (by decide)]; exact h.1
    · exact h.2.1.keep (by rw [up_o _ _ (by decide), up_o _ _ (by decide)]) (by rw [up_o _ _ (by decide), up_o _ _ (by decide)]) (by rw [up_o _ _ (by decide), up_o _ _ (by decide)]) (by rw [up_o _ _ (by decide), up_o _ _ (by decide)])
    · rw [up_row, up_row, h.2.2, w32_of (by omega) (by omega)]
      show _ = upg (upg f (458 + (f 457).toNat) c) 457 (f 457 + 1)
      rw [hf, Int.toNat_natCast]
  · skip
    omega
set_option maxRecDepth 4000 in
theorem p_X12_codes_bd {Γ : Gm} {d : Nat} {m : Mem} (e : Int × Nat) (c : Int) (h : BDm m e) : Ci Γ (d + 0) MX12_codes [rv 211, iv c] m (fun r m' => m' = m) := by
  refine Ci.of moX12_codes rfl rfl (fun hA hM => ?_)
  show Em Γ (d + 0) MX12_codes _ 0 [rv 211, iv c] [] m
  refine Ev.aload_n (q := 1) dX12_codes_0 rfl rfl ?_
  refine gI (q := 4) dX12_codes_1 gfX12_102 k211 rfl rfl ?_
  rw [h.1]
  refine Ev.if_eq (tgt := 8) (q := 7) dX12_codes_4 (by decide) rfl (fun h1 => ?_) (fun h1 => ?_)
  · skip
    exact absurd (by assumption) h.2.1
  · skip
    refine rV dX12_codes_7 rfl ?_
    rfl
set_option maxRecDepth 4000 in
theorem p_X12_goesIn {Γ : Gm} {d : Nat} {m : Mem} (tx : Nat → Int) (N : Nat) (t : Tok) (f : Row) (k : Nat) (hN : N ≤ 900) (hX : TX m tx N) (hO : tOK tx N t) (h : OKm m t f) : Ci Γ (d + 6) MX12_goesIn [rv 211, iv k] m (fun r m' => (k = 6 → r = 0 ∧ BDm m' ((if t.1 = 25 then 1 else 4), t.2.1) ∧ Fr sPq m m') ∧ (¬ k = 6 → r = 1 ∧ OKm m' (nxS tx N t) f ∧ Fr sPq m m')) := by
  refine Ci.of moX12_goesIn rfl rfl (fun hA hM => ?_)
  show Em Γ (d + 6) MX12_goesIn _ 0 [rv 211, iv k] [] m
  refine Ev.iload_n (q := 1) dX12_goesIn_0 rfl rfl ?_
  refine Ev.bipush (q := 3) dX12_goesIn_1 kb_6 rfl ?_
  refine Ev.icmp_ne (tgt := 11) (q := 6) dX12_goesIn_3 (by decide) rfl (fun h1 => ?_) (fun h1 => ?_)
  · skip
    refine Ev.aload_n (q := 12) dX12_goesIn_11 rfl rfl ?_
    refine gI (q := 15) dX12_goesIn_12 gfX12_102 k211 rfl rfl ?_
    rw [h.1]
    refine Ev.if_ne (tgt := 22) (q := 18) dX12_goesIn_15 (by decide) rfl (fun h21 => ?_) (fun h21 => ?_)
    · skip
      omega
    · skip
      refine Ev.aload_n (q := 19) dX12_goesIn_18 rfl rfl ?_
      refine cV0v (q := 22) (d' := d + 5) dX12_goesIn_19 mlX12_111 moX12_next mvX12_next k211 rfl rfl rfl (Nat.le_refl _) rfl rfl rfl (p_X12_next N t.2.2.1 hN hO.2.1 hX.1 h.2.1.2.2.1) (fun r22 m22 e22 => ?_)
      obtain ⟨M9, rfl⟩ : ∃ M9, M9 = m22 := ⟨_, rfl⟩
      obtain ⟨y1, y2⟩ := e22
      rw [hX.2] at y1
      have y3 := OKm_nx h (show TkM M9 (nxS tx N t) from y1) y2
      refine Ev.aload_n (q := 23) dX12_goesIn_22 rfl rfl ?_
      refine gI (q := 26) dX12_goesIn_23 gfX12_102 k211 rfl rfl ?_
      rw [y3.1]
      refine Ev.if_ne (tgt := 33) (q := 29) dX12_goesIn_26 (by decide) rfl (fun h23 => ?_) (fun h23 => ?_)
      · skip
        omega
      · skip
        refine Ev.iconst (q := 30) dX12_goesIn_29 ki_1 rfl ?_
        refine Ev.goto (q := 34) dX12_goesIn_30 (by decide) ?_
        refine rZ dX12_goesIn_34 rfl (by decide) ?_
        exact ⟨fun z => absurd z (by omega), fun _ => ⟨rfl, y3, y2.pq⟩⟩
  · skip
    refine Ev.aload_n (q := 7) dX12_goesIn_6 rfl rfl ?_
    refine Ev.iconst (q := 8) dX12_goesIn_7 ki_4 rfl ?_
    refine cV1v (q := 11) (d' := d + 5) dX12_goesIn_8 mlX12_114 moX12_fails mvX12_fails k211 rfl rfl rfl (Nat.le_refl _) rfl rfl rfl (p_X12_fails t f 4 (by decide) h) (fun r2 m2 e2 => ?_)
    obtain ⟨hb, hf⟩ := e2
    obtain ⟨M9, rfl⟩ : ∃ M9, M9 = m2 := ⟨_, rfl⟩
    refine Ev.aload_n (q := 12) dX12_goesIn_11 rfl rfl ?_
    refine gI (q := 15) dX12_goesIn_12 gfX12_102 k211 rfl rfl ?_
    rw [hb.1]
    refine Ev.if_ne (tgt := 22) (q := 18) dX12_goesIn_15 (by decide) rfl (fun h21 => ?_) (fun h21 => ?_)
    · skip
      refine Ev.aload_n (q := 23) dX12_goesIn_22 rfl rfl ?_
      refine gI (q := 26) dX12_goesIn_23 gfX12_102 k211 rfl rfl ?_
      rw [hb.1]
      refine Ev.if_ne (tgt := 33) (q := 29) dX12_goesIn_26 (by decide) rfl (fun h22 => ?_) (fun h22 => ?_)
      · skip
        refine Ev.iconst (q := 34) dX12_goesIn_33 ki_0 rfl ?_
        refine rZ dX12_goesIn_34 rfl (by decide) ?_
        exact ⟨fun _ => ⟨rfl, hb, hf⟩, fun z => absurd (by omega) z⟩
      · skip
        exact absurd (by assumption) hb.2.1
    · skip
      exact absurd (by assumption) hb.2.1
