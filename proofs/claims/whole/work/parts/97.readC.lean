/-! ===== the class: reading, small things ===== -/
def OKc (m : Mem) (t : Tok) : Prop := (m 2 2 = 0 ∧ m 2 3 = -1) ∧ TkC m t
def BDc (m : Mem) (e : Int × Nat) : Prop := m 2 2 = e.1 ∧ ¬ e.1 = 0 ∧ m 2 3 = (e.2 : Int)
def PTc (m : Mem) (x : Er Tok) : Prop := match x with
  | .inl e => BDc m e
  | .inr t => OKc m t
def PNc (r : Int) (m : Mem) (x : Er (Int × Tok)) : Prop := match x with
  | .inl e => r = 0 ∧ BDc m e
  | .inr a => r = a.1 ∧ OKc m a.2
def sTf (a k : Nat) : Bool := (a == 2 && (k == 2 || k == 3)) || (a == 22 && decide (2 ≤ k))
theorem sTf_n {a k : Nat} (h : sTf a k = false) : sTn a k = false := by unfold sTf at h; unfold sTn; simp at h ⊢; exact h.2
theorem Fr.tf {m m' : Mem} (h : Fr sTn m m') : Fr sTf m m' := h.mono (fun a k q => sTf_n q)
theorem TC.f {m m' : Mem} {tx : Nat → Int} {N : Nat} (h : TC m tx N) (hf : Fr sTf m m') : TC m' tx N := ⟨by rw [hf 22 0 rfl]; exact h.1, by rw [hf 22 1 rfl]; exact h.2.1, fun i hi => by rw [hf 1 i rfl]; exact h.2.2 i hi⟩
theorem OKc_nx {m m' : Mem} {t : Tok} (h : m 2 2 = 0 ∧ m 2 3 = -1) (hk : TkC m' t) (hf : Fr sTn m m') : OKc m' t := ⟨by rw [hf 2 2 rfl, hf 2 3 rfl]; exact h, hk⟩
set_option maxRecDepth 4000 in
theorem p_X6_fail {Γ : Gm} {d : Nat} {m : Mem} (tx : Nat → Int) (N : Nat) (t : Tok) (k : Int) (hT9 : tT tx N t) (hk : ¬ k = 0) (h : OKc m t) : Ci Γ (d + 0) MX6_fail [rv 2, iv k] m (fun r m' => BDc m' ((if t.1 = 25 then 1 else k), t.2.1) ∧ Fr sTf m m' ∧ m' 22 = m 22) := by
  refine Ci.of moX6_fail rfl rfl (fun hA hM => ?_)
  show Em Γ (d + 0) MX6_fail _ 0 [rv 2, iv k] [] m
  have hkc := kcl_w hT9.ok.2.2.2.1
  refine Ev.aload_n (q := 1) dX6_fail_0 rfl rfl ?_
  refine gI (q := 4) dX6_fail_1 gfX6_25 k2 rfl rfl ?_
  first | rw [h.1] | rw [h.1.1]
  refine Ev.if_eq (tgt := 8) (q := 7) dX6_fail_4 (by decide) rfl (fun h1 => ?_) (fun h1 => ?_)
  · skip
    refine Ev.aload_n (q := 9) dX6_fail_8 rfl rfl ?_
    refine Ev.aload_n (q := 10) dX6_fail_9 rfl rfl ?_
    refine gR (q := 13) dX6_fail_10 gfX6_35 k2 r2_4 rfl rfl ?_
    refine gI (q := 16) dX6_fail_13 gfX6_79 k22 rfl rfl ?_
    first | rw [h.2.1] | rw [h.2.1.1]
    refine Ev.iconst (q := 17) dX6_fail_16 ki_4 rfl ?_
    refine Ev.icmp_ne (tgt := 24) (q := 20) dX6_fail_17 (by decide) rfl (fun h2 => ?_) (fun h2 => ?_)
    · skip
      refine Ev.iload_n (q := 25) dX6_fail_24 rfl rfl ?_
      refine pI (q := 28) dX6_fail_25 gfX6_25 k2 rfl rfl ?_
      refine Ev.aload_n (q := 29) dX6_fail_28 rfl rfl ?_
      refine Ev.aload_n (q := 30) dX6_fail_29 rfl rfl ?_
      refine gR (q := 33) dX6_fail_30 gfX6_35 k2 r2_4 rfl rfl ?_
      refine gI (q := 36) dX6_fail_33 gfX6_254 k22 rfl rfl ?_
      rw [up_o _ _ (by decide), h.2.2.1]
      refine pI (q := 39) dX6_fail_36 gfX6_29 k2 rfl rfl ?_
      refine rV dX6_fail_39 rfl ?_
      refine ⟨⟨?_, by show ¬ (if t.1 = 25 then (1 : Int) else k) = 0; split <;> omega, up_eq _ _ _ _⟩, ((Fr.rf _ _).up rfl).up rfl, by rw [up_na _ _ (by decide), up_na _ _ (by decide)]⟩
      rw [up_k _ _ (by decide), up_eq, if_neg (by omega)]
    · skip
      refine Ev.iconst (q := 21) dX6_fail_20 ki_1 rfl ?_
      refine Ev.goto (q := 25) dX6_fail_21 (by decide) ?_
      refine pI (q := 28) dX6_fail_25 gfX6_25 k2 rfl rfl ?_
      refine Ev.aload_n (q := 29) dX6_fail_28 rfl rfl ?_
      refine Ev.aload_n (q := 30) dX6_fail_29 rfl rfl ?_
      refine gR (q := 33) dX6_fail_30 gfX6_35 k2 r2_4 rfl rfl ?_
      refine gI (q := 36) dX6_fail_33 gfX6_254 k22 rfl rfl ?_
      rw [up_o _ _ (by decide), h.2.2.1]
      refine pI (q := 39) dX6_fail_36 gfX6_29 k2 rfl rfl ?_
      refine rV dX6_fail_39 rfl ?_
      refine ⟨⟨?_, by show ¬ (if t.1 = 25 then (1 : Int) else k) = 0; split <;> omega, up_eq _ _ _ _⟩, ((Fr.rf _ _).up rfl).up rfl, by rw [up_na _ _ (by decide), up_na _ _ (by decide)]⟩
      rw [up_k _ _ (by decide), up_eq, if_pos (by omega)]
  · skip
    omega
set_option maxRecDepth 4000 in
theorem p_X6_fail_bd {Γ : Gm} {d : Nat} {m : Mem} (e : Int × Nat) (k : Int) (h : BDc m e) : Ci Γ (d + 0) MX6_fail [rv 2, iv k] m (fun r m' => m' = m) := by
  refine Ci.of moX6_fail rfl rfl (fun hA hM => ?_)
  show Em Γ (d + 0) MX6_fail _ 0 [rv 2, iv k] [] m
  refine Ev.aload_n (q := 1) dX6_fail_0 rfl rfl ?_
  refine gI (q := 4) dX6_fail_1 gfX6_25 k2 rfl rfl ?_
  first | rw [h.1] | rw [h.1.1]
  refine Ev.if_eq (tgt := 8) (q := 7) dX6_fail_4 (by decide) rfl (fun h1 => ?_) (fun h1 => ?_)
  · skip
    exact absurd (by assumption) h.2.1
  · skip
    refine rV dX6_fail_7 rfl ?_
    rfl
set_option maxRecDepth 4000 in
theorem p_X6_takesWord {Γ : Gm} {d : Nat} {m : Mem} (tx : Nat → Int) (N : Nat) (t : Tok) (i : Nat) (hN : N ≤ 900) (hC : TC m tx N) (hT9 : tT tx N t) (h : OKc m t) (hi : i < 19) : Ci Γ (d + 5) MX6_takesWord [rv 2, rv (100000 + i)] m (fun r m' => (t.1 = (kwOf i : Int) → r = 1 ∧ OKc m' (nxS tx N t) ∧ Fr sTf m m') ∧ (¬ t.1 = (kwOf i : Int) → r = 0 ∧ m' = m)) := by
  refine Ci.of moX6_takesWord rfl rfl (fun hA hM => ?_)
  show Em Γ (d + 5) MX6_takesWord _ 0 [rv 2, rv (100000 + i)] [] m
  refine Ev.aload_n (q := 1) dX6_takesWord_0 rfl rfl ?_
  refine gR (q := 4) dX6_takesWord_1 gfX6_35 k2 r2_4 rfl rfl ?_
  refine Ev.aload_n (q := 5) dX6_takesWord_4 rfl rfl ?_
  refine cV1i (q := 8) (d' := d + 4) dX6_takesWord_5 mlX6_93 moX8_isWord mvX8_isWord k22 rfl rfl rfl (Nat.le_refl _) rfl rfl rfl (p_X8_isWord tx N t i hN hC hT9 h.2 hi) (fun r1 m1 e1 => ?_)
  obtain ⟨rfl, e1⟩ := e1
  obtain rfl := e1.symm
  refine Ev.if_ne (tgt := 13) (q := 11) dX6_takesWord_8 (by decide) rfl (fun h2 => ?_) (fun h2 => ?_)
  · skip
    refine Ev.aload_n (q := 14) dX6_takesWord_13 rfl rfl ?_
    refine gR (q := 17) dX6_takesWord_14 gfX6_35 k2 r2_4 rfl rfl ?_
    refine cV0v (q := 20) (d' := d + 4) dX6_takesWord_17 mlX6_132 moX8_next mvX8_next k22 rfl rfl rfl (Nat.le_refl _) rfl rfl rfl (p_X8_next tx N t.2.2.1 hN hC hT9.ok.2.1 h.2.2.2.1) (fun r3 m3 e3 => ?_)
    obtain ⟨M9, rfl⟩ : ∃ M9, M9 = m3 := ⟨_, rfl⟩
    obtain ⟨y1, y2⟩ := e3
    have y3 : OKc M9 (nxS tx N t) := OKc_nx h.1 y1 y2
    refine Ev.iconst (q := 21) dX6_takesWord_20 ki_1 rfl ?_
    refine rZ dX6_takesWord_21 rfl (by decide) ?_
    exact ⟨fun _ => ⟨rfl, y3, y2.tf⟩, fun z => absurd (by split at h2 <;> omega) z⟩
  · skip
    refine Ev.iconst (q := 12) dX6_takesWord_11 ki_0 rfl ?_
    refine rZ dX6_takesWord_12 rfl (by decide) ?_
    exact ⟨fun z => absurd z (by split at h2 <;> omega), fun _ => ⟨rfl, rfl⟩⟩
set_option maxRecDepth 4000 in
theorem p_X6_expectWord {Γ : Gm} {d : Nat} {m : Mem} (tx : Nat → Int) (N : Nat) (t : Tok) (i : Nat) (hN : N ≤ 900) (hC : TC m tx N) (hT9 : tT tx N t) (h : OKc m t) (hi : i < 19) : Ci Γ (d + 6) MX6_expectWord [rv 2, rv (100000 + i)] m (fun r m' => PTc m' (eaS tx N (kwOf i) t) ∧ Fr sTf m m') := by
  refine Ci.of moX6_expectWord rfl rfl (fun hA hM => ?_)
  show Em Γ (d + 6) MX6_expectWord _ 0 [rv 2, rv (100000 + i)] [] m
  refine Ev.aload_n (q := 1) dX6_expectWord_0 rfl rfl ?_
  refine gI (q := 4) dX6_expectWord_1 gfX6_25 k2 rfl rfl ?_
  first | rw [h.1] | rw [h.1.1]
  refine Ev.if_ne (tgt := 20) (q := 7) dX6_expectWord_4 (by decide) rfl (fun h1 => ?_) (fun h1 => ?_)
  · skip
    omega
  · skip
    refine Ev.aload_n (q := 8) dX6_expectWord_7 rfl rfl ?_
    refine Ev.aload_n (q := 9) dX6_expectWord_8 rfl rfl ?_
    refine cV1i (q := 12) (d' := d + 5) dX6_expectWord_9 mlX6_160 moX6_takesWord mvX6_takesWord k2 rfl rfl rfl (Nat.le_refl _) rfl rfl rfl (p_X6_takesWord tx N t i hN hC hT9 h hi) (fun r2 m2 e2 => ?_)
    obtain ⟨M9, rfl⟩ : ∃ M9, M9 = m2 := ⟨_, rfl⟩
    obtain ⟨ey, en⟩ := e2
    refine Ev.if_ne (tgt := 20) (q := 15) dX6_expectWord_12 (by decide) rfl (fun h3 => ?_) (fun h3 => ?_)
    · skip
      have hk : t.1 = (kwOf i : Int) := Classical.byContradiction fun z => by have := (en z).1; omega
      obtain ⟨-, x9, f9⟩ := ey hk
      refine rV dX6_expectWord_20 rfl ?_
      unfold eaS
      rw [if_pos hk]
      exact ⟨x9, f9⟩
    · skip
      have hk : ¬ t.1 = (kwOf i : Int) := fun z => by have := (ey z).1; omega
      obtain ⟨-, rfl⟩ := en hk
      refine Ev.aload_n (q := 16) dX6_expectWord_15 rfl rfl ?_
      refine Ev.iconst (q := 17) dX6_expectWord_16 ki_2 rfl ?_
      refine cV1v (q := 20) (d' := d + 5) dX6_expectWord_17 mlX6_118 moX6_fail mvX6_fail k2 rfl rfl rfl (Nat.le_refl _) rfl rfl rfl (p_X6_fail tx N t 2 hT9 (by decide) h) (fun r4 m4 e4 => ?_)
      obtain ⟨b1, b2, b3⟩ := e4
      refine rV dX6_expectWord_20 rfl ?_
      unfold eaS
      rw [if_neg hk]
      exact ⟨b1, b2⟩
set_option maxRecDepth 4000 in
theorem p_X6_expectWord_bd {Γ : Gm} {d : Nat} {m : Mem} (e : Int × Nat) (i : Nat) (h : BDc m e) : Ci Γ (d + 0) MX6_expectWord [rv 2, rv (100000 + i)] m (fun r m' => m' = m) := by
  refine Ci.of moX6_expectWord rfl rfl (fun hA hM => ?_)
  show Em Γ (d + 0) MX6_expectWord _ 0 [rv 2, rv (100000 + i)] [] m
  refine Ev.aload_n (q := 1) dX6_expectWord_0 rfl rfl ?_
  refine gI (q := 4) dX6_expectWord_1 gfX6_25 k2 rfl rfl ?_
  first | rw [h.1] | rw [h.1.1]
  refine Ev.if_ne (tgt := 20) (q := 7) dX6_expectWord_4 (by decide) rfl (fun h1 => ?_) (fun h1 => ?_)
  · skip
    refine rV dX6_expectWord_20 rfl ?_
    rfl
  · skip
    exact absurd (by assumption) h.2.1
set_option maxRecDepth 4000 in
theorem p_X6_expectSign {Γ : Gm} {d : Nat} {m : Mem} (tx : Nat → Int) (N : Nat) (t : Tok) (c s : Int) (hN : N ≤ 900) (hC : TC m tx N) (hT9 : tT tx N t) (h : OKc m t) (hcs : (c = 59 ∧ s = 30) ∨ (c = 58 ∧ s = 31) ∨ (c = 43 ∧ s = 32) ∨ (c = 45 ∧ s = 33) ∨ (c = 42 ∧ s = 34) ∨ (c = 40 ∧ s = 35) ∨ (c = 41 ∧ s = 36)) : Ci Γ (d + 1) MX6_expectSign [rv 2, iv c] m (fun r m' => PTc m' (eaS tx N s t) ∧ Fr sTf m m') := by
  refine Ci.of moX6_expectSign rfl rfl (fun hA hM => ?_)
  show Em Γ (d + 1) MX6_expectSign _ 0 [rv 2, iv c] [] m
  refine Ev.aload_n (q := 1) dX6_expectSign_0 rfl rfl ?_
  refine gI (q := 4) dX6_expectSign_1 gfX6_25 k2 rfl rfl ?_
  first | rw [h.1] | rw [h.1.1]
  refine Ev.if_eq (tgt := 8) (q := 7) dX6_expectSign_4 (by decide) rfl (fun h1 => ?_) (fun h1 => ?_)
  · skip
    refine Ev.aload_n (q := 9) dX6_expectSign_8 rfl rfl ?_
    refine gR (q := 12) dX6_expectSign_9 gfX6_35 k2 r2_4 rfl rfl ?_
    refine Ev.iload_n (q := 13) dX6_expectSign_12 rfl rfl ?_
    refine cV1i (q := 16) (d' := d + 0) dX6_expectSign_13 mlX6_152 moX8_isSign mvX8_isSign k22 rfl rfl rfl (Nat.le_refl _) rfl rfl rfl (p_X8_isSign tx N t c s hN hC hT9 h.2 hcs) (fun r2 m2 e2 => ?_)
    obtain ⟨rfl, e2⟩ := e2
    obtain rfl := e2.symm
    refine Ev.if_eq (tgt := 29) (q := 19) dX6_expectSign_16 (by decide) rfl (fun h3 => ?_) (fun h3 => ?_)
    · skip
      refine Ev.aload_n (q := 30) dX6_expectSign_29 rfl rfl ?_
      refine Ev.iconst (q := 31) dX6_expectSign_30 ki_2 rfl ?_
      refine cV1v (q := 34) (d' := d + 0) dX6_expectSign_31 mlX6_118 moX6_fail mvX6_fail k2 rfl rfl rfl (Nat.le_refl _) rfl rfl rfl (p_X6_fail tx N t 2 hT9 (by decide) h) (fun r4 m4 e4 => ?_)
      obtain ⟨b1, b2, b3⟩ := e4
      refine rV dX6_expectSign_34 rfl ?_
      unfold eaS
      rw [if_neg (by split at h3 <;> omega)]
      exact ⟨b1, b2⟩
    · skip
      refine Ev.aload_n (q := 20) dX6_expectSign_19 rfl rfl ?_
      refine gR (q := 23) dX6_expectSign_20 gfX6_35 k2 r2_4 rfl rfl ?_
      refine cV0v (q := 26) (d' := d + 0) dX6_expectSign_23 mlX6_132 moX8_next mvX8_next k22 rfl rfl rfl (Nat.le_refl _) rfl rfl rfl (p_X8_next tx N t.2.2.1 hN hC hT9.ok.2.1 h.2.2.2.1) (fun r5 m5 e5 => ?_)
      obtain ⟨M9, rfl⟩ : ∃ M9, M9 = m5 := ⟨_, rfl⟩
      obtain ⟨y1, y2⟩ := e5
      have y3 : OKc M9 (nxS tx N t) := OKc_nx h.1 y1 y2
      refine Ev.goto (q := 34) dX6_expectSign_26 (by decide) ?_
      refine rV dX6_expectSign_34 rfl ?_
      unfold eaS
      rw [if_pos (by split at h3 <;> omega)]
      exact ⟨y3, y2.tf⟩
  · skip
    omega
set_option maxRecDepth 4000 in
theorem p_X6_expectSign_bd {Γ : Gm} {d : Nat} {m : Mem} (e : Int × Nat) (c : Int) (h : BDc m e) : Ci Γ (d + 0) MX6_expectSign [rv 2, iv c] m (fun r m' => m' = m) := by
  refine Ci.of moX6_expectSign rfl rfl (fun hA hM => ?_)
  show Em Γ (d + 0) MX6_expectSign _ 0 [rv 2, iv c] [] m
  refine Ev.aload_n (q := 1) dX6_expectSign_0 rfl rfl ?_
  refine gI (q := 4) dX6_expectSign_1 gfX6_25 k2 rfl rfl ?_
  first | rw [h.1] | rw [h.1.1]
  refine Ev.if_eq (tgt := 8) (q := 7) dX6_expectSign_4 (by decide) rfl (fun h1 => ?_) (fun h1 => ?_)
  · skip
    exact absurd (by assumption) h.2.1
  · skip
    refine rV dX6_expectSign_7 rfl ?_
    rfl
set_option maxRecDepth 4000 in
theorem p_X6_expectNumber {Γ : Gm} {d : Nat} {m : Mem} (tx : Nat → Int) (N : Nat) (t : Tok) (lo hi : Int) (hN : N ≤ 900) (hC : TC m tx N) (hT9 : tT tx N t) (h : OKc m t) : Ci Γ (d + 1) MX6_expectNumber [rv 2, iv lo, iv hi] m (fun r m' => PNc r m' (nuS tx N lo hi t) ∧ Fr sTf m m') := by
  refine Ci.of moX6_expectNumber rfl rfl (fun hA hM => ?_)
  show Em Γ (d + 1) MX6_expectNumber _ 0 [rv 2, iv lo, iv hi, uv] [] m
  have hkc := kcl_w hT9.ok.2.2.2.1
  refine Ev.aload_n (q := 1) dX6_expectNumber_0 rfl rfl ?_
  refine gI (q := 4) dX6_expectNumber_1 gfX6_25 k2 rfl rfl ?_
  first | rw [h.1] | rw [h.1.1]
  refine Ev.if_eq (tgt := 9) (q := 7) dX6_expectNumber_4 (by decide) rfl (fun h1 => ?_) (fun h1 => ?_)
  · skip
    refine Ev.aload_n (q := 10) dX6_expectNumber_9 rfl rfl ?_
    refine gR (q := 13) dX6_expectNumber_10 gfX6_35 k2 r2_4 rfl rfl ?_
    refine gI (q := 16) dX6_expectNumber_13 gfX6_79 k22 rfl rfl ?_
    first | rw [h.2.1] | rw [h.2.1.1]
    refine Ev.iconst (q := 17) dX6_expectNumber_16 ki_2 rfl ?_
    refine Ev.icmp_eq (tgt := 28) (q := 20) dX6_expectNumber_17 (by decide) rfl (fun h2 => ?_) (fun h2 => ?_)
    · skip
      have hk : t.1 = 23 := by omega
      have hnum : m 22 5 = t.2.2.2 := h.2.2.2.2 hk
      refine Ev.aload_n (q := 29) dX6_expectNumber_28 rfl rfl ?_
      refine gR (q := 32) dX6_expectNumber_29 gfX6_35 k2 r2_4 rfl rfl ?_
      refine gI (q := 35) dX6_expectNumber_32 gfX6_171 k22 rfl rfl ?_
      rw [hnum]
      refine Ev.iload_n (q := 36) dX6_expectNumber_35 rfl rfl ?_
      refine Ev.icmp_lt (tgt := 50) (q := 39) dX6_expectNumber_36 (by decide) rfl (fun h3 => ?_) (fun h3 => ?_)
      · skip
        have hw : ¬ (lo ≤ t.2.2.2 ∧ t.2.2.2 ≤ hi) := by omega
        have hu : nuS tx N lo hi t = flS t 3 := by unfold nuS; rw [if_pos hk, if_neg hw]
        rw [hu]
        refine Ev.aload_n (q := 51) dX6_expectNumber_50 rfl rfl ?_
        refine Ev.iconst (q := 52) dX6_expectNumber_51 ki_3 rfl ?_
        refine cV1v (q := 55) (d' := d + 0) dX6_expectNumber_52 mlX6_118 moX6_fail mvX6_fail k2 rfl rfl rfl (Nat.le_refl _) rfl rfl rfl (p_X6_fail tx N t 3 hT9 (by decide) h) (fun r41 m41 e41 => ?_)
        obtain ⟨b1, b2, b3⟩ := e41
        refine Ev.aload_n (q := 56) dX6_expectNumber_55 rfl rfl ?_
        refine gI (q := 59) dX6_expectNumber_56 gfX6_25 k2 rfl rfl ?_
        first | rw [b1.1] | rw [b1.1.1]
        refine Ev.if_eq (tgt := 64) (q := 62) dX6_expectNumber_59 (by decide) rfl (fun h61 => ?_) (fun h61 => ?_)
        · skip
          exact absurd (by assumption) b1.2.1
        · skip
          refine Ev.iconst (q := 63) dX6_expectNumber_62 ki_0 rfl ?_
          refine rI dX6_expectNumber_63 rfl ?_
          exact ⟨⟨rfl, b1⟩, b2⟩
      · skip
        refine Ev.aload_n (q := 40) dX6_expectNumber_39 rfl rfl ?_
        refine gR (q := 43) dX6_expectNumber_40 gfX6_35 k2 r2_4 rfl rfl ?_
        refine gI (q := 46) dX6_expectNumber_43 gfX6_171 k22 rfl rfl ?_
        rw [hnum]
        refine Ev.iload_n (q := 47) dX6_expectNumber_46 rfl rfl ?_
        refine Ev.icmp_le (tgt := 55) (q := 50) dX6_expectNumber_47 (by decide) rfl (fun h4 => ?_) (fun h4 => ?_)
        · skip
          have hw : lo ≤ t.2.2.2 ∧ t.2.2.2 ≤ hi := by omega
          have hu : nuS tx N lo hi t = .inr (t.2.2.2, nxS tx N t) := by unfold nuS; rw [if_pos hk, if_pos hw]
          rw [hu]
          refine Ev.aload_n (q := 56) dX6_expectNumber_55 rfl rfl ?_
          refine gI (q := 59) dX6_expectNumber_56 gfX6_25 k2 rfl rfl ?_
          first | rw [h.1] | rw [h.1.1]
          refine Ev.if_eq (tgt := 64) (q := 62) dX6_expectNumber_59 (by decide) rfl (fun h61 => ?_) (fun h61 => ?_)
          · skip
            refine Ev.aload_n (q := 65) dX6_expectNumber_64 rfl rfl ?_
            refine gR (q := 68) dX6_expectNumber_65 gfX6_35 k2 r2_4 rfl rfl ?_
            refine gI (q := 71) dX6_expectNumber_68 gfX6_171 k22 rfl rfl ?_
            rw [hnum]
            refine istore_n_3 (q := 72) dX6_expectNumber_71 rfl rfl rfl ?_
            refine Ev.aload_n (q := 73) dX6_expectNumber_72 rfl rfl ?_
            refine gR (q := 76) dX6_expectNumber_73 gfX6_35 k2 r2_4 rfl rfl ?_
            refine cV0v (q := 79) (d' := d + 0) dX6_expectNumber_76 mlX6_132 moX8_next mvX8_next k22 rfl rfl rfl (Nat.le_refl _) rfl rfl rfl (p_X8_next tx N t.2.2.1 hN hC hT9.ok.2.1 h.2.2.2.1) (fun r62 m62 e62 => ?_)
            obtain ⟨M9, rfl⟩ : ∃ M9, M9 = m62 := ⟨_, rfl⟩
            obtain ⟨y1, y2⟩ := e62
            have y3 : OKc M9 (nxS tx N t) := OKc_nx h.1 y1 y2
            refine Ev.iload_n (q := 80) dX6_expectNumber_79 rfl rfl ?_
            refine rI dX6_expectNumber_80 rfl ?_
            exact ⟨⟨rfl, y3⟩, y2.tf⟩
          · skip
            omega
        · skip
          have hw : ¬ (lo ≤ t.2.2.2 ∧ t.2.2.2 ≤ hi) := by omega
          have hu : nuS tx N lo hi t = flS t 3 := by unfold nuS; rw [if_pos hk, if_neg hw]
          rw [hu]
          refine Ev.aload_n (q := 51) dX6_expectNumber_50 rfl rfl ?_
          refine Ev.iconst (q := 52) dX6_expectNumber_51 ki_3 rfl ?_
          refine cV1v (q := 55) (d' := d + 0) dX6_expectNumber_52 mlX6_118 moX6_fail mvX6_fail k2 rfl rfl rfl (Nat.le_refl _) rfl rfl rfl (p_X6_fail tx N t 3 hT9 (by decide) h) (fun r41 m41 e41 => ?_)
          obtain ⟨b1, b2, b3⟩ := e41
          refine Ev.aload_n (q := 56) dX6_expectNumber_55 rfl rfl ?_
          refine gI (q := 59) dX6_expectNumber_56 gfX6_25 k2 rfl rfl ?_
          first | rw [b1.1] | rw [b1.1.1]
          refine Ev.if_eq (tgt := 64) (q := 62) dX6_expectNumber_59 (by decide) rfl (fun h61 => ?_) (fun h61 => ?_)
          · skip
            exact absurd (by assumption) b1.2.1
          · skip
            refine Ev.iconst (q := 63) dX6_expectNumber_62 ki_0 rfl ?_
            refine rI dX6_expectNumber_63 rfl ?_
            exact ⟨⟨rfl, b1⟩, b2⟩
    · skip
      have hk : ¬ t.1 = 23 := by omega
      have hu : nuS tx N lo hi t = flS t 2 := by unfold nuS; rw [if_neg hk]
      rw [hu]
      refine Ev.aload_n (q := 21) dX6_expectNumber_20 rfl rfl ?_
      refine Ev.iconst (q := 22) dX6_expectNumber_21 ki_2 rfl ?_
      refine cV1v (q := 25) (d' := d + 0) dX6_expectNumber_22 mlX6_118 moX6_fail mvX6_fail k2 rfl rfl rfl (Nat.le_refl _) rfl rfl rfl (p_X6_fail tx N t 2 hT9 (by decide) h) (fun r5 m5 e5 => ?_)
      obtain ⟨b1, b2, b3⟩ := e5
      refine Ev.goto (q := 55) dX6_expectNumber_25 (by decide) ?_
      refine Ev.aload_n (q := 56) dX6_expectNumber_55 rfl rfl ?_
      refine gI (q := 59) dX6_expectNumber_56 gfX6_25 k2 rfl rfl ?_
      first | rw [b1.1] | rw [b1.1.1]
      refine Ev.if_eq (tgt := 64) (q := 62) dX6_expectNumber_59 (by decide) rfl (fun h61 => ?_) (fun h61 => ?_)
      · skip
        exact absurd (by assumption) b1.2.1
      · skip
        refine Ev.iconst (q := 63) dX6_expectNumber_62 ki_0 rfl ?_
        refine rI dX6_expectNumber_63 rfl ?_
        exact ⟨⟨rfl, b1⟩, b2⟩
  · skip
    omega
set_option maxRecDepth 4000 in
theorem p_X6_expectNumber_bd {Γ : Gm} {d : Nat} {m : Mem} (e : Int × Nat) (lo hi : Int) (h : BDc m e) : Ci Γ (d + 0) MX6_expectNumber [rv 2, iv lo, iv hi] m (fun r m' => r = 0 ∧ m' = m) := by
  refine Ci.of moX6_expectNumber rfl rfl (fun hA hM => ?_)
  show Em Γ (d + 0) MX6_expectNumber _ 0 [rv 2, iv lo, iv hi, uv] [] m
  refine Ev.aload_n (q := 1) dX6_expectNumber_0 rfl rfl ?_
  refine gI (q := 4) dX6_expectNumber_1 gfX6_25 k2 rfl rfl ?_
  first | rw [h.1] | rw [h.1.1]
  refine Ev.if_eq (tgt := 9) (q := 7) dX6_expectNumber_4 (by decide) rfl (fun h1 => ?_) (fun h1 => ?_)
  · skip
    exact absurd (by assumption) h.2.1
  · skip
    refine Ev.iconst (q := 8) dX6_expectNumber_7 ki_0 rfl ?_
    refine rI dX6_expectNumber_8 rfl ?_
    exact ⟨rfl, rfl⟩
def wcF (t : Tok) : Int := if t.1 = 17 then 0 else if t.1 = 10 then 1 else if t.1 = 11 then 2 else if t.1 = 18 then 3 else -1
def wcS (t : Tok) : Int := if t.1 = 18 then 0 else if t.1 = 5 then 1 else if t.1 = 1 then 2 else -1
theorem kwO : (kwOf 14 : Int) = 17 ∧ (kwOf 10 : Int) = 10 ∧ (kwOf 11 : Int) = 11 ∧ (kwOf 15 : Int) = 18 ∧ (kwOf 5 : Int) = 5 ∧ (kwOf 1 : Int) = 1 := by decide
theorem wc_0 (t : Tok) : (wdV 0 t.1 = -1 ↔ wcF t = -1) ∧ (¬ wdV 0 t.1 = -1 → 0 ≤ wcF t ∧ wcF t < 4 ∧ codC 0 (1000 + wdV 0 t.1) = -1 - wcF t) := by
  unfold wdV wcF codC wIx
  by_cases h1 : t.1 = 18
  · rw [h1]; decide
  · by_cases h2 : t.1 = 17
    · rw [h2]; decide
    · by_cases h3 : t.1 = 10
      · rw [h3]; decide
      · by_cases h4 : t.1 = 11
        · rw [h4]; decide
        · simp [h1, h2, h3, h4]
theorem wc_1 (t : Tok) : (wdV 1 t.1 = -1 ↔ wcS t = -1) ∧ (¬ wdV 1 t.1 = -1 → 0 ≤ wcS t ∧ wcS t < 4 ∧ codC 1 (1000 + wdV 1 t.1) = -1 - wcS t) := by
  unfold wdV wcS codC wIx
  by_cases h1 : t.1 = 18
  · rw [h1]; decide
  · by_cases h2 : t.1 = 5
    · rw [h2]; decide
    · by_cases h3 : t.1 = 1
      · rw [h3]; decide
      · simp [h1, h2, h3]
set_option maxRecDepth 4000 in
theorem p_X6_wordOfFoot {Γ : Gm} {d : Nat} {m : Mem} (tx : Nat → Int) (N : Nat) (t : Tok) (hN : N ≤ 900) (hC : TC m tx N) (hT9 : tT tx N t) (h : OKc m t) : Ci Γ (d + 5) MX6_wordOfFoot [rv 2] m (fun r m' => r = wcF t ∧ m' = m) := by
  refine Ci.of moX6_wordOfFoot rfl rfl (fun hA hM => ?_)
  show Em Γ (d + 5) MX6_wordOfFoot _ 0 [rv 2] [] m
  obtain ⟨o1, o2, o3, o4, o5, o6⟩ := kwO
  refine Ev.aload_n (q := 1) dX6_wordOfFoot_0 rfl rfl ?_
  refine gR (q := 4) dX6_wordOfFoot_1 gfX6_35 k2 r2_4 rfl rfl ?_
  refine Ev.ldcS (q := 6) dX6_wordOfFoot_4 (i := 14) rfl rfl ?_
  refine cV1i (q := 9) (d' := d + 4) dX6_wordOfFoot_6 mlX6_93 moX8_isWord mvX8_isWord k22 rfl rfl rfl (Nat.le_refl _) rfl rfl rfl (p_X8_isWord tx N t 14 hN hC hT9 h.2 (by decide)) (fun r1 m1 e1 => ?_)
  obtain ⟨rfl, e1⟩ := e1
  obtain rfl := e1.symm
  refine Ev.if_eq (tgt := 14) (q := 12) dX6_wordOfFoot_9 (by decide) rfl (fun h2 => ?_) (fun h2 => ?_)
  · skip
    refine Ev.aload_n (q := 15) dX6_wordOfFoot_14 rfl rfl ?_
    refine gR (q := 18) dX6_wordOfFoot_15 gfX6_35 k2 r2_4 rfl rfl ?_
    refine Ev.ldcS (q := 20) dX6_wordOfFoot_18 (i := 10) rfl rfl ?_
    refine cV1i (q := 23) (d' := d + 4) dX6_wordOfFoot_20 mlX6_93 moX8_isWord mvX8_isWord k22 rfl rfl rfl (Nat.le_refl _) rfl rfl rfl (p_X8_isWord tx N t 10 hN hC hT9 h.2 (by decide)) (fun r3 m3 e3 => ?_)
    obtain ⟨rfl, e3⟩ := e3
    obtain rfl := e3.symm
    refine Ev.if_eq (tgt := 28) (q := 26) dX6_wordOfFoot_23 (by decide) rfl (fun h4 => ?_) (fun h4 => ?_)
    · skip
      refine Ev.aload_n (q := 29) dX6_wordOfFoot_28 rfl rfl ?_
      refine gR (q := 32) dX6_wordOfFoot_29 gfX6_35 k2 r2_4 rfl rfl ?_
      refine Ev.ldcS (q := 34) dX6_wordOfFoot_32 (i := 11) rfl rfl ?_
      refine cV1i (q := 37) (d' := d + 4) dX6_wordOfFoot_34 mlX6_93 moX8_isWord mvX8_isWord k22 rfl rfl rfl (Nat.le_refl _) rfl rfl rfl (p_X8_isWord tx N t 11 hN hC hT9 h.2 (by decide)) (fun r5 m5 e5 => ?_)
      obtain ⟨rfl, e5⟩ := e5
      obtain rfl := e5.symm
      refine Ev.if_eq (tgt := 42) (q := 40) dX6_wordOfFoot_37 (by decide) rfl (fun h6 => ?_) (fun h6 => ?_)
      · skip
        refine Ev.aload_n (q := 43) dX6_wordOfFoot_42 rfl rfl ?_
        refine gR (q := 46) dX6_wordOfFoot_43 gfX6_35 k2 r2_4 rfl rfl ?_
        refine Ev.ldcS (q := 48) dX6_wordOfFoot_46 (i := 15) rfl rfl ?_
        refine cV1i (q := 51) (d' := d + 4) dX6_wordOfFoot_48 mlX6_93 moX8_isWord mvX8_isWord k22 rfl rfl rfl (Nat.le_refl _) rfl rfl rfl (p_X8_isWord tx N t 15 hN hC hT9 h.2 (by decide)) (fun r7 m7 e7 => ?_)
        obtain ⟨rfl, e7⟩ := e7
        obtain rfl := e7.symm
        refine Ev.if_eq (tgt := 58) (q := 54) dX6_wordOfFoot_51 (by decide) rfl (fun h8 => ?_) (fun h8 => ?_)
        · skip
          refine Ev.iconst (q := 59) dX6_wordOfFoot_58 ki_m1 rfl ?_
          refine rI dX6_wordOfFoot_59 rfl ?_
          refine ⟨?_, rfl⟩
          unfold wcF
          rw [o1] at *
          repeat (first | rfl | omega | split)
        · skip
          refine Ev.iconst (q := 55) dX6_wordOfFoot_54 ki_3 rfl ?_
          refine Ev.goto (q := 59) dX6_wordOfFoot_55 (by decide) ?_
          refine rI dX6_wordOfFoot_59 rfl ?_
          refine ⟨?_, rfl⟩
          unfold wcF
          rw [o1] at *
          repeat (first | rfl | omega | split)
      · skip
        refine Ev.iconst (q := 41) dX6_wordOfFoot_40 ki_2 rfl ?_
        refine rI dX6_wordOfFoot_41 rfl ?_
        refine ⟨?_, rfl⟩
        unfold wcF
        rw [o1] at *
        repeat (first | rfl | omega | split)
    · skip
      refine Ev.iconst (q := 27) dX6_wordOfFoot_26 ki_1 rfl ?_
      refine rI dX6_wordOfFoot_27 rfl ?_
      refine ⟨?_, rfl⟩
      unfold wcF
      rw [o1] at *
      repeat (first | rfl | omega | split)
  · skip
    refine Ev.iconst (q := 13) dX6_wordOfFoot_12 ki_0 rfl ?_
    refine rI dX6_wordOfFoot_13 rfl ?_
    refine ⟨?_, rfl⟩
    unfold wcF
    rw [o1] at *
    repeat (first | rfl | omega | split)
set_option maxRecDepth 4000 in
theorem p_X6_wordOfStop {Γ : Gm} {d : Nat} {m : Mem} (tx : Nat → Int) (N : Nat) (t : Tok) (hN : N ≤ 900) (hC : TC m tx N) (hT9 : tT tx N t) (h : OKc m t) : Ci Γ (d + 5) MX6_wordOfStop [rv 2] m (fun r m' => r = wcS t ∧ m' = m) := by
  refine Ci.of moX6_wordOfStop rfl rfl (fun hA hM => ?_)
  show Em Γ (d + 5) MX6_wordOfStop _ 0 [rv 2] [] m
  obtain ⟨o1, o2, o3, o4, o5, o6⟩ := kwO
  refine Ev.aload_n (q := 1) dX6_wordOfStop_0 rfl rfl ?_
  refine gR (q := 4) dX6_wordOfStop_1 gfX6_35 k2 r2_4 rfl rfl ?_
  refine Ev.ldcS (q := 6) dX6_wordOfStop_4 (i := 15) rfl rfl ?_
  refine cV1i (q := 9) (d' := d + 4) dX6_wordOfStop_6 mlX6_93 moX8_isWord mvX8_isWord k22 rfl rfl rfl (Nat.le_refl _) rfl rfl rfl (p_X8_isWord tx N t 15 hN hC hT9 h.2 (by decide)) (fun r1 m1 e1 => ?_)
  obtain ⟨rfl, e1⟩ := e1
  obtain rfl := e1.symm
  refine Ev.if_eq (tgt := 14) (q := 12) dX6_wordOfStop_9 (by decide) rfl (fun h2 => ?_) (fun h2 => ?_)
  · skip
    refine Ev.aload_n (q := 15) dX6_wordOfStop_14 rfl rfl ?_
    refine gR (q := 18) dX6_wordOfStop_15 gfX6_35 k2 r2_4 rfl rfl ?_
    refine Ev.ldcS (q := 20) dX6_wordOfStop_18 (i := 5) rfl rfl ?_
    refine cV1i (q := 23) (d' := d + 4) dX6_wordOfStop_20 mlX6_93 moX8_isWord mvX8_isWord k22 rfl rfl rfl (Nat.le_refl _) rfl rfl rfl (p_X8_isWord tx N t 5 hN hC hT9 h.2 (by decide)) (fun r3 m3 e3 => ?_)
    obtain ⟨rfl, e3⟩ := e3
    obtain rfl := e3.symm
    refine Ev.if_eq (tgt := 28) (q := 26) dX6_wordOfStop_23 (by decide) rfl (fun h4 => ?_) (fun h4 => ?_)
    · skip
      refine Ev.aload_n (q := 29) dX6_wordOfStop_28 rfl rfl ?_
      refine gR (q := 32) dX6_wordOfStop_29 gfX6_35 k2 r2_4 rfl rfl ?_
      refine Ev.ldcS (q := 34) dX6_wordOfStop_32 (i := 1) rfl rfl ?_
      refine cV1i (q := 37) (d' := d + 4) dX6_wordOfStop_34 mlX6_93 moX8_isWord mvX8_isWord k22 rfl rfl rfl (Nat.le_refl _) rfl rfl rfl (p_X8_isWord tx N t 1 hN hC hT9 h.2 (by decide)) (fun r5 m5 e5 => ?_)
      obtain ⟨rfl, e5⟩ := e5
      obtain rfl := e5.symm
      refine Ev.if_eq (tgt := 44) (q := 40) dX6_wordOfStop_37 (by decide) rfl (fun h6 => ?_) (fun h6 => ?_)
      · skip
        refine Ev.iconst (q := 45) dX6_wordOfStop_44 ki_m1 rfl ?_
        refine rI dX6_wordOfStop_45 rfl ?_
        refine ⟨?_, rfl⟩
        unfold wcS
        repeat (first | rfl | omega | split)
      · skip
        refine Ev.iconst (q := 41) dX6_wordOfStop_40 ki_2 rfl ?_
        refine Ev.goto (q := 45) dX6_wordOfStop_41 (by decide) ?_
        refine rI dX6_wordOfStop_45 rfl ?_
        refine ⟨?_, rfl⟩
        unfold wcS
        repeat (first | rfl | omega | split)
    · skip
      refine Ev.iconst (q := 27) dX6_wordOfStop_26 ki_1 rfl ?_
      refine rI dX6_wordOfStop_27 rfl ?_
      refine ⟨?_, rfl⟩
      unfold wcS
      repeat (first | rfl | omega | split)
  · skip
    refine Ev.iconst (q := 13) dX6_wordOfStop_12 ki_0 rfl ?_
    refine rI dX6_wordOfStop_13 rfl ?_
    refine ⟨?_, rfl⟩
    unfold wcS
    repeat (first | rfl | omega | split)
