/-! ===== the reference: leaves ===== -/
set_option maxRecDepth 4000 in
theorem p_X12_far {Γ : Gm} {d : Nat} {m : Mem} (a b : Int) : Ci Γ (d + 0) MX12_far [iv a, iv b] m (fun r m' => r = (if a < b then w32 (b - a) else w32 (a - b)) ∧ m' = m) := by
  refine Ci.of moX12_far rfl rfl (fun hA hM => ?_)
  show Em Γ (d + 0) MX12_far _ 0 [iv a, iv b] [] m
  refine Ev.iload_n (q := 1) dX12_far_0 rfl rfl ?_
  refine Ev.iload_n (q := 2) dX12_far_1 rfl rfl ?_
  refine Ev.icmp_ge (tgt := 11) (q := 5) dX12_far_2 (by decide) rfl (fun h1 => ?_) (fun h1 => ?_)
  · skip
    refine Ev.iload_n (q := 12) dX12_far_11 rfl rfl ?_
    refine Ev.iload_n (q := 13) dX12_far_12 rfl rfl ?_
    refine Ev.isub (q := 14) dX12_far_13 rfl ?_
    refine rI dX12_far_14 rfl ?_
    exact ⟨by split <;> first | rfl | omega, rfl⟩
  · skip
    refine Ev.iload_n (q := 6) dX12_far_5 rfl rfl ?_
    refine Ev.iload_n (q := 7) dX12_far_6 rfl rfl ?_
    refine Ev.isub (q := 8) dX12_far_7 rfl ?_
    refine Ev.goto (q := 14) dX12_far_8 (by decide) ?_
    refine rI dX12_far_14 rfl ?_
    exact ⟨by split <;> first | rfl | omega, rfl⟩
set_option maxRecDepth 4000 in
theorem p_X12_within {Γ : Gm} {d : Nat} {m : Mem} (v lo hi : Int) : Ci Γ (d + 0) MX12_within [jv v, jv lo, jv hi] m (fun r m' => r = (if lo ≤ v ∧ v ≤ hi then 1 else 0) ∧ m' = m) := by
  refine Ci.of moX12_within rfl rfl (fun hA hM => ?_)
  show Em Γ (d + 0) MX12_within _ 0 [jv v, uv, jv lo, uv, jv hi, uv] [] m
  refine Ev.lload_n (q := 1) dX12_within_0 rfl rfl ?_
  refine Ev.lload_n (q := 2) dX12_within_1 rfl rfl ?_
  refine Ev.lcmp (q := 3) dX12_within_2 rfl ?_
  refine Ev.if_lt (tgt := 17) (q := 6) dX12_within_3 (by decide) rfl (fun h1 => ?_) (fun h1 => ?_)
  · skip
    refine Ev.iconst (q := 18) dX12_within_17 ki_0 rfl ?_
    refine rZ dX12_within_18 rfl (by decide) ?_
    refine ⟨?_, rfl⟩
    simp only [lcmp_lt (okV_j (okA_0 hA)) (okV_j (okA_1 hA)), lcmp_gt (okV_j (okA_0 hA)) (okV_j (okA_2 hA))] at *
    split <;> first | rfl | omega
  · skip
    refine Ev.lload_n (q := 7) dX12_within_6 rfl rfl ?_
    refine Ev.lload (q := 9) dX12_within_7 rfl rfl ?_
    refine Ev.lcmp (q := 10) dX12_within_9 rfl ?_
    refine Ev.if_gt (tgt := 17) (q := 13) dX12_within_10 (by decide) rfl (fun h2 => ?_) (fun h2 => ?_)
    · skip
      refine Ev.iconst (q := 18) dX12_within_17 ki_0 rfl ?_
      refine rZ dX12_within_18 rfl (by decide) ?_
      refine ⟨?_, rfl⟩
      simp only [lcmp_lt (okV_j (okA_0 hA)) (okV_j (okA_1 hA)), lcmp_gt (okV_j (okA_0 hA)) (okV_j (okA_2 hA))] at *
      split <;> first | rfl | omega
    · skip
      refine Ev.iconst (q := 14) dX12_within_13 ki_1 rfl ?_
      refine Ev.goto (q := 18) dX12_within_14 (by decide) ?_
      refine rZ dX12_within_18 rfl (by decide) ?_
      refine ⟨?_, rfl⟩
      simp only [lcmp_lt (okV_j (okA_0 hA)) (okV_j (okA_1 hA)), lcmp_gt (okV_j (okA_0 hA)) (okV_j (okA_2 hA))] at *
      split <;> first | rfl | omega
set_option maxRecDepth 4000 in
theorem p_X12_isIn {Γ : Gm} {d : Nat} {m : Mem} (s k : Nat) (hs : s < 4096) (hk : k < 12) : Ci Γ (d + 0) MX12_isIn [jv s, iv k] m (fun r m' => r = (if s.testBit k then 1 else 0) ∧ m' = m) := by
  refine Ci.of moX12_isIn rfl rfl (fun hA hM => ?_)
  show Em Γ (d + 0) MX12_isIn _ 0 [jv s, uv, iv k] [] m
  refine Ev.lload_n (q := 1) dX12_isIn_0 rfl rfl ?_
  refine Ev.iload_n (q := 2) dX12_isIn_1 rfl rfl ?_
  refine Ev.lshr (q := 3) dX12_isIn_2 rfl ?_
  refine Ev.lconst (q := 4) dX12_isIn_3 kj_1 rfl ?_
  refine Ev.land (q := 5) dX12_isIn_4 rfl ?_
  refine Ev.lconst (q := 6) dX12_isIn_5 kj_1 rfl ?_
  refine Ev.lcmp (q := 7) dX12_isIn_6 rfl ?_
  refine Ev.if_ne (tgt := 14) (q := 10) dX12_isIn_7 (by decide) rfl (fun h1 => ?_) (fun h1 => ?_)
  · skip
    refine Ev.iconst (q := 15) dX12_isIn_14 ki_0 rfl ?_
    refine rZ dX12_isIn_15 rfl (by decide) ?_
    refine ⟨?_, rfl⟩
    rw [lcmp_z (w64_to _) kj_1.2, isin_n s hs k hk] at h1
    cases hb : s.testBit k <;> simp [hb] at h1 ⊢
  · skip
    refine Ev.iconst (q := 11) dX12_isIn_10 ki_1 rfl ?_
    refine Ev.goto (q := 15) dX12_isIn_11 (by decide) ?_
    refine rZ dX12_isIn_15 rfl (by decide) ?_
    refine ⟨?_, rfl⟩
    rw [lcmp_z (w64_to _) kj_1.2, isin_n s hs k hk] at h1
    cases hb : s.testBit k <;> simp [hb] at h1 ⊢
set_option maxRecDepth 4000 in
theorem p_X12_isSmall {Γ : Gm} {d : Nat} {m : Mem} (c : Int) : Ci Γ (d + 0) MX12_isSmall [iv c] m (fun r m' => r = (if 97 ≤ c ∧ c ≤ 122 then 1 else 0) ∧ m' = m) := by
  refine Ci.of moX12_isSmall rfl rfl (fun hA hM => ?_)
  show Em Γ (d + 0) MX12_isSmall _ 0 [iv c] [] m
  refine Ev.iload_n (q := 1) dX12_isSmall_0 rfl rfl ?_
  refine Ev.bipush (q := 3) dX12_isSmall_1 kb_97 rfl ?_
  refine Ev.icmp_lt (tgt := 16) (q := 6) dX12_isSmall_3 (by decide) rfl (fun h1 => ?_) (fun h1 => ?_)
  · skip
    refine Ev.iconst (q := 17) dX12_isSmall_16 ki_0 rfl ?_
    refine rZ dX12_isSmall_17 rfl (by decide) ?_
    refine ⟨?_, rfl⟩
    split <;> first | rfl | omega
  · skip
    refine Ev.iload_n (q := 7) dX12_isSmall_6 rfl rfl ?_
    refine Ev.bipush (q := 9) dX12_isSmall_7 kb_122 rfl ?_
    refine Ev.icmp_gt (tgt := 16) (q := 12) dX12_isSmall_9 (by decide) rfl (fun h2 => ?_) (fun h2 => ?_)
    · skip
      refine Ev.iconst (q := 17) dX12_isSmall_16 ki_0 rfl ?_
      refine rZ dX12_isSmall_17 rfl (by decide) ?_
      refine ⟨?_, rfl⟩
      split <;> first | rfl | omega
    · skip
      refine Ev.iconst (q := 13) dX12_isSmall_12 ki_1 rfl ?_
      refine Ev.goto (q := 17) dX12_isSmall_13 (by decide) ?_
      refine rZ dX12_isSmall_17 rfl (by decide) ?_
      refine ⟨?_, rfl⟩
      split <;> first | rfl | omega
set_option maxRecDepth 4000 in
theorem p_X12_isDigit {Γ : Gm} {d : Nat} {m : Mem} (c : Int) : Ci Γ (d + 0) MX12_isDigit [iv c] m (fun r m' => r = (if 48 ≤ c ∧ c ≤ 57 then 1 else 0) ∧ m' = m) := by
  refine Ci.of moX12_isDigit rfl rfl (fun hA hM => ?_)
  show Em Γ (d + 0) MX12_isDigit _ 0 [iv c] [] m
  refine Ev.iload_n (q := 1) dX12_isDigit_0 rfl rfl ?_
  refine Ev.bipush (q := 3) dX12_isDigit_1 kb_48 rfl ?_
  refine Ev.icmp_lt (tgt := 16) (q := 6) dX12_isDigit_3 (by decide) rfl (fun h1 => ?_) (fun h1 => ?_)
  · skip
    refine Ev.iconst (q := 17) dX12_isDigit_16 ki_0 rfl ?_
    refine rZ dX12_isDigit_17 rfl (by decide) ?_
    refine ⟨?_, rfl⟩
    split <;> first | rfl | omega
  · skip
    refine Ev.iload_n (q := 7) dX12_isDigit_6 rfl rfl ?_
    refine Ev.bipush (q := 9) dX12_isDigit_7 kb_57 rfl ?_
    refine Ev.icmp_gt (tgt := 16) (q := 12) dX12_isDigit_9 (by decide) rfl (fun h2 => ?_) (fun h2 => ?_)
    · skip
      refine Ev.iconst (q := 17) dX12_isDigit_16 ki_0 rfl ?_
      refine rZ dX12_isDigit_17 rfl (by decide) ?_
      refine ⟨?_, rfl⟩
      split <;> first | rfl | omega
    · skip
      refine Ev.iconst (q := 13) dX12_isDigit_12 ki_1 rfl ?_
      refine Ev.goto (q := 17) dX12_isDigit_13 (by decide) ?_
      refine rZ dX12_isDigit_17 rfl (by decide) ?_
      refine ⟨?_, rfl⟩
      split <;> first | rfl | omega
set_option maxRecDepth 4000 in
theorem l_bitsOf {Γ : Gm} {d : Nat} {m : Mem} (s : Nat) (hs : s < 4096) : ∀ (n k : Nat), k + n = 12 → Em Γ (d + 0) MX12_bitsOf (fun r m' => r = (pop s : Int) ∧ m' = m) 4 [iv s, iv (popN s k), iv k] [] m := by
  intro n
  induction n with
  | zero =>
    intro k hk
    obtain rfl : k = 12 := by omega
    refine Ev.iload_n (q := 5) dX12_bitsOf_4 rfl rfl ?_
    refine Ev.bipush (q := 7) dX12_bitsOf_5 kb_12 rfl ?_
    refine Ev.icmp_ge (tgt := 24) (q := 10) dX12_bitsOf_7 (by decide) rfl (fun h1 => ?_) (fun h1 => ?_)
    · skip
      refine Ev.iload_n (q := 25) dX12_bitsOf_24 rfl rfl ?_
      refine rI dX12_bitsOf_25 rfl ?_
      exact ⟨rfl, rfl⟩
    · skip
      omega
  | succ n ih =>
    intro k hk
    refine Ev.iload_n (q := 5) dX12_bitsOf_4 rfl rfl ?_
    refine Ev.bipush (q := 7) dX12_bitsOf_5 kb_12 rfl ?_
    refine Ev.icmp_ge (tgt := 24) (q := 10) dX12_bitsOf_7 (by decide) rfl (fun h1 => ?_) (fun h1 => ?_)
    · skip
      omega
    · skip
      refine Ev.iload_n (q := 11) dX12_bitsOf_10 rfl rfl ?_
      refine Ev.iload_n (q := 12) dX12_bitsOf_11 rfl rfl ?_
      refine Ev.iload_n (q := 13) dX12_bitsOf_12 rfl rfl ?_
      refine Ev.ishr (q := 14) dX12_bitsOf_13 rfl ?_
      refine Ev.iconst (q := 15) dX12_bitsOf_14 ki_1 rfl ?_
      refine Ev.iand (q := 16) dX12_bitsOf_15 rfl ?_
      refine Ev.iadd (q := 17) dX12_bitsOf_16 rfl ?_
      refine istore_n_1 (q := 18) dX12_bitsOf_17 rfl rfl rfl ?_
      refine iinc_2 (q := 21) dX12_bitsOf_18 rfl rfl rfl ?_
      refine Ev.goto (q := 4) dX12_bitsOf_21 (by decide) ?_
      have h2 := popN_le s k
      have e1 : w32 (((popN s k : Nat) : Int) + (if s.testBit k then 1 else 0)) = ((popN s (k + 1) : Nat) : Int) := by
        rw [w32_of (by split <;> omega) (by split <;> omega)]
        show _ = ((popN s k + (if s.testBit k then 1 else 0) : Nat) : Int)
        split <;> simp
      rw [ishr_n s hs k (by omega), e1, w32_of (by omega) (by omega)]
      exact ih (k + 1) (by omega)
set_option maxRecDepth 4000 in
theorem p_X12_bitsOf {Γ : Gm} {d : Nat} {m : Mem} (s : Nat) (hs : s < 4096) : Ci Γ (d + 0) MX12_bitsOf [iv s] m (fun r m' => r = (pop s : Int) ∧ m' = m) := by
  refine Ci.of moX12_bitsOf rfl rfl (fun hA hM => ?_)
  show Em Γ (d + 0) MX12_bitsOf _ 0 [iv s, uv, uv] [] m
  refine Ev.iconst (q := 1) dX12_bitsOf_0 ki_0 rfl ?_
  refine istore_n_1 (q := 2) dX12_bitsOf_1 rfl rfl rfl ?_
  refine Ev.iconst (q := 3) dX12_bitsOf_2 ki_0 rfl ?_
  refine istore_n_2 (q := 4) dX12_bitsOf_3 rfl rfl rfl ?_
  exact l_bitsOf s hs 12 0 (by omega)
