/-! ===== the reference: leaves ===== -/
set_option maxRecDepth 4000 in
theorem p_X12_far {Γ : Gm} {d : Nat} {m : Mem} (a b : Int) : Ci Γ (d + 0) MX12_far [iv a, iv b] m (fun r m' => r = (if a < b then w32 (b - a) else w32 (a - b)) ∧ m' = m) := by
  refine Ci.of moX12_far rfl rfl (fun hA hM => ?_)
  show Em Γ (d + 0) MX12_far _ 0 [iv a, iv b] [] m
  refine Ev.iload_n (q := 1) dX12_far_0 rfl rfl ?_
  refine Ev.iload_n (q := 2) dX12_far_1 rfl rfl ?_
  refine Ev.icmp_ge (tgt := 11) (q := 5) dX12_far_2 (by decide) rfl (fun h1 => ?_) (fun h1 => ?_)
  · skip
    refine Ev.iload_n (q := 12) dX12_far_11 rfl rfl ?_
    refine Ev.iload_n (q := 13) dX12_far_12 rfl rfl ?_
    refine Ev.isub (q := 14) dX12_far_13 rfl ?_
    refine rI dX12_far_14 rfl ?_
    exact ⟨by split <;> first | rfl | omega, rfl⟩
  · skip
    refine Ev.iload_n (q := 6) dX12_far_5 rfl rfl ?_
    refine Ev.iload_n (q := 7) dX12_far_6 rfl rfl ?_
    refine Ev.isub (q := 8) dX12_far_7 rfl ?_
    refine Ev.goto (q := 14) dX12_far_8 (by decide) ?_
    refine rI dX12_far_14 rfl ?_
    exact ⟨by split <;> first | rfl | omega, rfl⟩
set_option maxRecDepth 4000 in
theorem p_X12_within {Γ : Gm} {d : Nat} {m : Mem} (v lo hi : Int) : Ci Γ (d + 0) MX12_within [jv v, jv lo, jv hi] m (fun r m' => r = (if lo ≤ v ∧ v ≤ hi then 1 else 0) ∧ m' = m) := by
  refine Ci.of moX12_within rfl rfl (fun hA hM => ?_)
  show Em Γ (d + 0) MX12_within _ 0 [jv v, uv, jv lo, uv, jv hi, uv] [] m
  refine Ev.lload_n (q := 1) dX12_within_0 rfl rfl ?_
  refine Ev.lload_n (q := 2) dX12_within_1 rfl rfl ?_
  refine Ev.lcmp (q := 3) dX12_within_2 rfl ?_
  refine Ev.if_lt (tgt := 17) (q := 6) dX12_within_3 (by decide) rfl (fun h1 => ?_) (fun h1 => ?_)
  · skip
    refine Ev.iconst (q := 18) dX12_within_17 ki_0 rfl ?_
    refine rZ dX12_within_18 rfl (by decide) ?_
    refine ⟨?_, rfl⟩
    simp only [lcmp_lt (okV_j (okA_0 hA)) (okV_j (okA_1 hA)), lcmp_gt (okV_j (okA_0 hA)) (okV_j (okA_2 hA))] at *
    split <;> first | rfl | omega
  · skip
    refine Ev.lload_n (q := 7) dX12_within_6 rfl rfl ?_
    refine Ev.lload (q := 9) dX12_within_7 rfl rfl ?_
    refine Ev.lcmp (q := 10) dX12_within_9 rfl ?_
    refine Ev.if_gt (tgt := 17) (q := 13) dX12_within_10 (by decide) rfl (fun h2 => ?_) (fun h2 => ?_)
    · skip
      refine Ev.iconst (q := 18) dX12_within_17 ki_0 rfl ?_
      refine rZ dX12_within_18 rfl (by decide) ?_
      refine ⟨?_, rfl⟩
      simp only [lcmp_lt (okV_j (okA_0 hA)) (okV_j (okA_1 hA)), lcmp_gt (okV_j (okA_0 hA)) (okV_j (okA_2 hA))] at *
      split <;> first | rfl | omega
    · skip
      refine Ev.iconst (q := 14) dX12_within_13 ki_1 rfl ?_
      refine Ev.goto (q := 18) dX12_within_14 (by decide) ?_
      refine rZ dX12_within_18 rfl (by decide) ?_
      refine ⟨?_, rfl⟩
      simp only [lcmp_lt (okV_j (okA_0 hA)) (okV_j (okA_1 hA)), lcmp_gt (okV_j (okA_0 hA)) (okV_j (okA_2 hA))] at *
      split <;> first | rfl | omega
set_option maxRecDepth 4000 in
theorem p_X12_isIn {Γ : Gm} {d : Nat} {m : Mem} (s k : Nat) (hs : s < 4096) (hk : k < 12) : Ci Γ (d + 0) MX12_isIn [jv s, iv k] m (fun r m' => r = (if s.testBit k then 1 else 0) ∧ m' = m) := by
  refine Ci.of moX12_isIn rfl rfl (fun hA hM => ?_)
  show Em Γ (d + 0) MX12_isIn _ 0 [jv s, uv, iv k] [] m
  have b1 : o_lcmp 1 1 = 0 := by decide +kernel
  have b0 : o_lcmp 0 1 = -1 := by decide +kernel
  refine Ev.lload_n (q := 1) dX12_isIn_0 rfl rfl ?_
  refine Ev.iload_n (q := 2) dX12_isIn_1 rfl rfl ?_
  refine Ev.lshr (q := 3) dX12_isIn_2 rfl ?_
  refine Ev.lconst (q := 4) dX12_isIn_3 kj_1 rfl ?_
  refine Ev.land (q := 5) dX12_isIn_4 rfl ?_
  refine Ev.lconst (q := 6) dX12_isIn_5 kj_1 rfl ?_
  refine Ev.lcmp (q := 7) dX12_isIn_6 rfl ?_
  refine Ev.if_ne (tgt := 14) (q := 10) dX12_isIn_7 (by decide) rfl (fun h1 => ?_) (fun h1 => ?_)
  · skip
    refine Ev.iconst (q := 15) dX12_isIn_14 ki_0 rfl ?_
    refine rZ dX12_isIn_15 rfl (by decide) ?_
    refine ⟨?_, rfl⟩
    rw [isin_n s hs k hk] at h1
    cases hb : s.testBit k <;> simp [hb, b0, b1] at h1 ⊢
  · skip
    refine Ev.iconst (q := 11) dX12_isIn_10 ki_1 rfl ?_
    refine Ev.goto (q := 15) dX12_isIn_11 (by decide) ?_
    refine rZ dX12_isIn_15 rfl (by decide) ?_
    refine ⟨?_, rfl⟩
    rw [isin_n s hs k hk] at h1
    cases hb : s.testBit k <;> simp [hb, b0, b1] at h1 ⊢
set_option maxRecDepth 4000 in
theorem p_X12_isSmall {Γ : Gm} {d : Nat} {m : Mem} (c : Int) : Ci Γ (d + 0) MX12_isSmall [iv c] m (fun r m' => r = (if 97 ≤ c ∧ c ≤ 122 then 1 else 0) ∧ m' = m) := by
  refine Ci.of moX12_isSmall rfl rfl (fun hA hM => ?_)
  show Em Γ (d + 0) MX12_isSmall _ 0 [iv c] [] m
  refine Ev.iload_n (q := 1) dX12_isSmall_0 rfl rfl ?_
  refine Ev.bipush (q := 3) dX12_isSmall_1 kb_97 rfl ?_
  refine Ev.icmp_lt (tgt := 16) (q := 6) dX12_isSmall_3 (by decide) rfl (fun h1 => ?_) (fun h1 => ?_)
  · skip
    refine Ev.iconst (q := 17) dX12_isSmall_16 ki_0 rfl ?_
    refine rZ dX12_isSmall_17 rfl (by decide) ?_
    refine ⟨?_, rfl⟩
    split <;> first | rfl | omega
  · skip
    refine Ev.iload_n (q := 7) dX12_isSmall_6 rfl rfl ?_
    refine Ev.bipush (q := 9) dX12_isSmall_7 kb_122 rfl ?_
    refine Ev.icmp_gt (tgt := 16) (q := 12) dX12_isSmall_9 (by decide) rfl (fun h2 => ?_) (fun h2 => ?_)
    · skip
      refine Ev.iconst (q := 17) dX12_isSmall_16 ki_0 rfl ?_
      refine rZ dX12_isSmall_17 rfl (by decide) ?_
      refine ⟨?_, rfl⟩
      split <;> first | rfl | omega
    · skip
      refine Ev.iconst (q := 13) dX12_isSmall_12 ki_1 rfl ?_
      refine Ev.goto (q := 17) dX12_isSmall_13 (by decide) ?_
      refine rZ dX12_isSmall_17 rfl (by decide) ?_
      refine ⟨?_, rfl⟩
      split <;> first | rfl | omega
set_option maxRecDepth 4000 in
theorem p_X12_isDigit {Γ : Gm} {d : Nat} {m : Mem} (c : Int) : Ci Γ (d + 0) MX12_isDigit [iv c] m (fun r m' => r = (if 48 ≤ c ∧ c ≤ 57 then 1 else 0) ∧ m' = m) := by
  refine Ci.of moX12_isDigit rfl rfl (fun hA hM => ?_)
  show Em Γ (d + 0) MX12_isDigit _ 0 [iv c] [] m
  refine Ev.iload_n (q := 1) dX12_isDigit_0 rfl rfl ?_
  refine Ev.bipush (q := 3) dX12_isDigit_1 kb_48 rfl ?_
  refine Ev.icmp_lt (tgt := 16) (q := 6) dX12_isDigit_3 (by decide) rfl (fun h1 => ?_) (fun h1 => ?_)
  · skip
    refine Ev.iconst (q := 17) dX12_isDigit_16 ki_0 rfl ?_
    refine rZ dX12_isDigit_17 rfl (by decide) ?_
    refine ⟨?_, rfl⟩
    split <;> first | rfl | omega
  · skip
    refine Ev.iload_n (q := 7) dX12_isDigit_6 rfl rfl ?_
    refine Ev.bipush (q := 9) dX12_isDigit_7 kb_57 rfl ?_
    refine Ev.icmp_gt (tgt := 16) (q := 12) dX12_isDigit_9 (by decide) rfl (fun h2 => ?_) (fun h2 => ?_)
    · skip
      refine Ev.iconst (q := 17) dX12_isDigit_16 ki_0 rfl ?_
      refine rZ dX12_isDigit_17 rfl (by decide) ?_
      refine ⟨?_, rfl⟩
      split <;> first | rfl | omega
    · skip
      refine Ev.iconst (q := 13) dX12_isDigit_12 ki_1 rfl ?_
      refine Ev.goto (q := 17) dX12_isDigit_13 (by decide) ?_
      refine rZ dX12_isDigit_17 rfl (by decide) ?_
      refine ⟨?_, rfl⟩
      split <;> first | rfl | omega
set_option maxRecDepth 4000 in
theorem l_bitsOf {Γ : Gm} {d : Nat} {m : Mem} (s : Nat) (hs : s < 4096) : ∀ (n k : Nat), k + n = 12 → Em Γ (d + 0) MX12_bitsOf (fun r m' => r = (pop s : Int) ∧ m' = m) 4 [iv s, iv (popN s k), iv k] [] m := by
  intro n
  induction n with
  | zero =>
    intro k hk
    obtain rfl : k = 12 := by omega
    refine Ev.iload_n (q := 5) dX12_bitsOf_4 rfl rfl ?_
    refine Ev.bipush (q := 7) dX12_bitsOf_5 kb_12 rfl ?_
    refine Ev.icmp_ge (tgt := 24) (q := 10) dX12_bitsOf_7 (by decide) rfl (fun h1 => ?_) (fun h1 => ?_)
    · skip
      refine Ev.iload_n (q := 25) dX12_bitsOf_24 rfl rfl ?_
      refine rI dX12_bitsOf_25 rfl ?_
      exact ⟨rfl, rfl⟩
    · skip
      omega
  | succ n ih =>
    intro k hk
    refine Ev.iload_n (q := 5) dX12_bitsOf_4 rfl rfl ?_
    refine Ev.bipush (q := 7) dX12_bitsOf_5 kb_12 rfl ?_
    refine Ev.icmp_ge (tgt := 24) (q := 10) dX12_bitsOf_7 (by decide) rfl (fun h1 => ?_) (fun h1 => ?_)
    · skip
      omega
    · skip
      refine Ev.iload_n (q := 11) dX12_bitsOf_10 rfl rfl ?_
      refine Ev.iload_n (q := 12) dX12_bitsOf_11 rfl rfl ?_
      refine Ev.iload_n (q := 13) dX12_bitsOf_12 rfl rfl ?_
      refine Ev.ishr (q := 14) dX12_bitsOf_13 rfl ?_
      refine Ev.iconst (q := 15) dX12_bitsOf_14 ki_1 rfl ?_
      refine Ev.iand (q := 16) dX12_bitsOf_15 rfl ?_
      refine Ev.iadd (q := 17) dX12_bitsOf_16 rfl ?_
      refine istore_n_1 (q := 18) dX12_bitsOf_17 rfl rfl rfl ?_
      refine iinc_2 (q := 21) dX12_bitsOf_18 rfl rfl rfl ?_
      refine Ev.goto (q := 4) dX12_bitsOf_21 (by decide) ?_
      have h2 := popN_le s k
      have e1 : w32 (((popN s k : Nat) : Int) + (if s.testBit k then 1 else 0)) = ((popN s (k + 1) : Nat) : Int) := by
        rw [w32_of (by split <;> omega) (by split <;> omega)]
        show _ = ((popN s k + (if s.testBit k then 1 else 0) : Nat) : Int)
        split <;> simp
      rw [ishr_n s hs k (by omega), e1, w32_of (by omega) (by omega)]
      exact ih (k + 1) (by omega)
set_option maxRecDepth 4000 in
theorem p_X12_bitsOf {Γ : Gm} {d : Nat} {m : Mem} (s : Nat) (hs : s < 4096) : Ci Γ (d + 0) MX12_bitsOf [iv s] m (fun r m' => r = (pop s : Int) ∧ m' = m) := by
  refine Ci.of moX12_bitsOf rfl rfl (fun hA hM => ?_)
  show Em Γ (d + 0) MX12_bitsOf _ 0 [iv s, uv, uv] [] m
  refine Ev.iconst (q := 1) dX12_bitsOf_0 ki_0 rfl ?_
  refine istore_n_1 (q := 2) dX12_bitsOf_1 rfl rfl rfl ?_
  refine Ev.iconst (q := 3) dX12_bitsOf_2 ki_0 rfl ?_
  refine istore_n_2 (q := 4) dX12_bitsOf_3 rfl rfl rfl ?_
  exact l_bitsOf s hs 12 0 (by omega)
set_option maxRecDepth 4000 in
theorem p_X12_isLift {Γ : Gm} {d : Nat} {m : Mem} (l : Int) (hk : 0 ≤ m 212 2 ∧ m 212 2 < 100) : Ci Γ (d + 1) MX12_isLift [rv 211, jv l] m (fun r m' => r = (if 0 ≤ l ∧ l < m 212 2 then 1 else 0) ∧ m' = m) := by
  refine Ci.of moX12_isLift rfl rfl (fun hA hM => ?_)
  show Em Γ (d + 1) MX12_isLift _ 0 [rv 211, jv l, uv] [] m
  refine Ev.lload_n (q := 1) dX12_isLift_0 rfl rfl ?_
  refine Ev.lconst (q := 2) dX12_isLift_1 kj_0 rfl ?_
  refine Ev.aload_n (q := 3) dX12_isLift_2 rfl rfl ?_
  refine gR (q := 6) dX12_isLift_3 gfX12_13 k211 r211_1 rfl rfl ?_
  refine Ev.iconst (q := 7) dX12_isLift_6 ki_2 rfl ?_
  refine aI (q := 8) (k := 2) dX12_isLift_7 k212 (by rfl) (by decide) rfl ?_
  refine Ev.iconst (q := 9) dX12_isLift_8 ki_1 rfl ?_
  refine Ev.isub (q := 10) dX12_isLift_9 rfl ?_
  refine Ev.i2l (q := 11) dX12_isLift_10 rfl ?_
  refine cS3i (q := 14) (d' := d + 0) dX12_isLift_11 mlX12_118 moX12_within msX12_within rfl rfl (Nat.le_refl _) rfl rfl rfl (p_X12_within _ _ _) (fun r1 m1 e1 => ?_)
  obtain ⟨rfl, rfl⟩ := e1
  rw [w32_of (by omega) (by omega)]
  refine rZ dX12_isLift_14 rfl (by split <;> simp) ?_
  exact ⟨by split <;> split <;> first | rfl | omega, rfl⟩
set_option maxRecDepth 4000 in
theorem p_X12_isPerson {Γ : Gm} {d : Nat} {m : Mem} (l : Int) (hk : 0 ≤ m 212 3 ∧ m 212 3 < 100) : Ci Γ (d + 1) MX12_isPerson [rv 211, jv l] m (fun r m' => r = (if 0 ≤ l ∧ l < m 212 3 then 1 else 0) ∧ m' = m) := by
  refine Ci.of moX12_isPerson rfl rfl (fun hA hM => ?_)
  show Em Γ (d + 1) MX12_isPerson _ 0 [rv 211, jv l, uv] [] m
  refine Ev.lload_n (q := 1) dX12_isPerson_0 rfl rfl ?_
  refine Ev.lconst (q := 2) dX12_isPerson_1 kj_0 rfl ?_
  refine Ev.aload_n (q := 3) dX12_isPerson_2 rfl rfl ?_
  refine gR (q := 6) dX12_isPerson_3 gfX12_13 k211 r211_1 rfl rfl ?_
  refine Ev.iconst (q := 7) dX12_isPerson_6 ki_3 rfl ?_
  refine aI (q := 8) (k := 3) dX12_isPerson_7 k212 (by rfl) (by decide) rfl ?_
  refine Ev.iconst (q := 9) dX12_isPerson_8 ki_1 rfl ?_
  refine Ev.isub (q := 10) dX12_isPerson_9 rfl ?_
  refine Ev.i2l (q := 11) dX12_isPerson_10 rfl ?_
  refine cS3i (q := 14) (d' := d + 0) dX12_isPerson_11 mlX12_118 moX12_within msX12_within rfl rfl (Nat.le_refl _) rfl rfl rfl (p_X12_within _ _ _) (fun r1 m1 e1 => ?_)
  obtain ⟨rfl, rfl⟩ := e1
  rw [w32_of (by omega) (by omega)]
  refine rZ dX12_isPerson_14 rfl (by split <;> simp) ?_
  exact ⟨by split <;> split <;> first | rfl | omega, rfl⟩
set_option maxRecDepth 4000 in
theorem p_X12_isFloor {Γ : Gm} {d : Nat} {m : Mem} (l : Int) (hk : 0 ≤ m 212 1 ∧ m 212 1 < 100) : Ci Γ (d + 1) MX12_isFloor [rv 211, jv l] m (fun r m' => r = (if 0 ≤ l ∧ l < m 212 1 then 1 else 0) ∧ m' = m) := by
  refine Ci.of moX12_isFloor rfl rfl (fun hA hM => ?_)
  show Em Γ (d + 1) MX12_isFloor _ 0 [rv 211, jv l, uv] [] m
  refine Ev.lload_n (q := 1) dX12_isFloor_0 rfl rfl ?_
  refine Ev.lconst (q := 2) dX12_isFloor_1 kj_0 rfl ?_
  refine Ev.aload_n (q := 3) dX12_isFloor_2 rfl rfl ?_
  refine gR (q := 6) dX12_isFloor_3 gfX12_13 k211 r211_1 rfl rfl ?_
  refine Ev.iconst (q := 7) dX12_isFloor_6 ki_1 rfl ?_
  refine aI (q := 8) (k := 1) dX12_isFloor_7 k212 (by rfl) (by decide) rfl ?_
  refine Ev.iconst (q := 9) dX12_isFloor_8 ki_1 rfl ?_
  refine Ev.isub (q := 10) dX12_isFloor_9 rfl ?_
  refine Ev.i2l (q := 11) dX12_isFloor_10 rfl ?_
  refine cS3i (q := 14) (d' := d + 0) dX12_isFloor_11 mlX12_118 moX12_within msX12_within rfl rfl (Nat.le_refl _) rfl rfl rfl (p_X12_within _ _ _) (fun r1 m1 e1 => ?_)
  obtain ⟨rfl, rfl⟩ := e1
  rw [w32_of (by omega) (by omega)]
  refine rZ dX12_isFloor_14 rfl (by split <;> simp) ?_
  exact ⟨by split <;> split <;> first | rfl | omega, rfl⟩
set_option maxRecDepth 4000 in
theorem p_X12_between {Γ : Gm} {d : Nat} {m : Mem} (c a b : Int) (ha : -1000000 ≤ a ∧ a ≤ 1000000) (hb : -1000000 ≤ b ∧ b ≤ 1000000) : Ci Γ (d + 0) MX12_between [iv c, iv a, iv b] m (fun r m' => r = (let v := if c = 3000 then a + b else if c = 3001 then a - b else a * b; if v > 1000000 then 1000000 else if v < -1000000 then -1000000 else v) ∧ m' = m) := by
  refine Ci.of moX12_between rfl rfl (fun hA hM => ?_)
  show Em Γ (d + 0) MX12_between _ 0 [iv c, iv a, iv b, uv, uv] [] m
  have hmb := mul_bd ha hb
  refine Ev.iload_n (q := 1) dX12_between_0 rfl rfl ?_
  refine Ev.sipush (q := 4) dX12_between_1 kh_3000 rfl ?_
  refine Ev.icmp_ne (tgt := 15) (q := 7) dX12_between_4 (by decide) rfl (fun h1 => ?_) (fun h1 => ?_)
  · skip
    refine Ev.iload_n (q := 16) dX12_between_15 rfl rfl ?_
    refine Ev.sipush (q := 19) dX12_between_16 kh_3001 rfl ?_
    refine Ev.icmp_ne (tgt := 30) (q := 22) dX12_between_19 (by decide) rfl (fun h2 => ?_) (fun h2 => ?_)
    · skip
      refine Ev.iload_n (q := 31) dX12_between_30 rfl rfl ?_
      refine Ev.i2l (q := 32) dX12_between_31 rfl ?_
      refine Ev.iload_n (q := 33) dX12_between_32 rfl rfl ?_
      refine Ev.i2l (q := 34) dX12_between_33 rfl ?_
      refine Ev.lmul (q := 35) dX12_between_34 rfl ?_
      refine lstore_n_3 (q := 36) dX12_between_35 rfl rfl rfl ?_
      refine Ev.lload_n (q := 37) dX12_between_36 rfl rfl ?_
      refine Ev.ldc2 (q := 40) dX12_between_37 klX12_180 klvX12_180 rfl ?_
      refine Ev.lcmp (q := 41) dX12_between_40 rfl ?_
      refine Ev.if_le (tgt := 50) (q := 44) dX12_between_41 (by decide) rfl (fun h3 => ?_) (fun h3 => ?_)
      · skip
        refine Ev.lload_n (q := 51) dX12_between_50 rfl rfl ?_
        refine Ev.ldc2 (q := 54) dX12_between_51 klX12_182 klvX12_182 rfl ?_
        refine Ev.lcmp (q := 55) dX12_between_54 rfl ?_
        refine Ev.if_ge (tgt := 64) (q := 58) dX12_between_55 (by decide) rfl (fun h4 => ?_) (fun h4 => ?_)
        · skip
          refine Ev.lload_n (q := 65) dX12_between_64 rfl rfl ?_
          refine Ev.l2i (q := 66) dX12_between_65 rfl ?_
          refine rI dX12_between_66 rfl ?_
          refine ⟨?_, rfl⟩
          simp (disch := omega) only [w32_of, w64_of, lcB_lt, lcB_gt, lcB_le, lcB_ge] at *
          simp only [*, if_true, if_false]
          repeat (first | omega | exact w32_of (by omega) (by omega) | split)
        · skip
          refine Ev.ldc2 (q := 61) dX12_between_58 klX12_182 klvX12_182 rfl ?_
          refine Ev.goto (q := 65) dX12_between_61 (by decide) ?_
          refine Ev.l2i (q := 66) dX12_between_65 rfl ?_
          refine rI dX12_between_66 rfl ?_
          refine ⟨?_, rfl⟩
          simp (disch := omega) only [w32_of, w64_of, lcB_lt, lcB_gt, lcB_le, lcB_ge] at *
          simp only [*, if_true, if_false]
          repeat (first | omega | exact w32_of (by omega) (by omega) | split)
      · skip
        refine Ev.ldc2 (q := 47) dX12_between_44 klX12_180 klvX12_180 rfl ?_
        refine Ev.goto (q := 65) dX12_between_47 (by decide) ?_
        refine Ev.l2i (q := 66) dX12_between_65 rfl ?_
        refine rI dX12_between_66 rfl ?_
        refine ⟨?_, rfl⟩
        simp (disch := omega) only [w32_of, w64_of, lcB_lt, lcB_gt, lcB_le, lcB_ge] at *
        simp only [*, if_true, if_false]
        repeat (first | omega | exact w32_of (by omega) (by omega) | split)
    · skip
      refine Ev.iload_n (q := 23) dX12_between_22 rfl rfl ?_
      refine Ev.i2l (q := 24) dX12_between_23 rfl ?_
      refine Ev.iload_n (q := 25) dX12_between_24 rfl rfl ?_
      refine Ev.i2l (q := 26) dX12_between_25 rfl ?_
      refine Ev.lsub (q := 27) dX12_between_26 rfl ?_
      refine Ev.goto (q := 35) dX12_between_27 (by decide) ?_
      refine lstore_n_3 (q := 36) dX12_between_35 rfl rfl rfl ?_
      refine Ev.lload_n (q := 37) dX12_between_36 rfl rfl ?_
      refine Ev.ldc2 (q := 40) dX12_between_37 klX12_180 klvX12_180 rfl ?_
      refine Ev.lcmp (q := 41) dX12_between_40 rfl ?_
      refine Ev.if_le (tgt := 50) (q := 44) dX12_between_41 (by decide) rfl (fun h5 => ?_) (fun h5 => ?_)
      · skip
        refine Ev.lload_n (q := 51) dX12_between_50 rfl rfl ?_
        refine Ev.ldc2 (q := 54) dX12_between_51 klX12_182 klvX12_182 rfl ?_
        refine Ev.lcmp (q := 55) dX12_between_54 rfl ?_
        refine Ev.if_ge (tgt := 64) (q := 58) dX12_between_55 (by decide) rfl (fun h6 => ?_) (fun h6 => ?_)
        · skip
          refine Ev.lload_n (q := 65) dX12_between_64 rfl rfl ?_
          refine Ev.l2i (q := 66) dX12_between_65 rfl ?_
          refine rI dX12_between_66 rfl ?_
          refine ⟨?_, rfl⟩
          simp (disch := omega) only [w32_of, w64_of, lcB_lt, lcB_gt, lcB_le, lcB_ge] at *
          simp only [*, if_true, if_false]
          repeat (first | omega | exact w32_of (by omega) (by omega) | split)
        · skip
          refine Ev.ldc2 (q := 61) dX12_between_58 klX12_182 klvX12_182 rfl ?_
          refine Ev.goto (q := 65) dX12_between_61 (by decide) ?_
          refine Ev.l2i (q := 66) dX12_between_65 rfl ?_
          refine rI dX12_between_66 rfl ?_
          refine ⟨?_, rfl⟩
          simp (disch := omega) only [w32_of, w64_of, lcB_lt, lcB_gt, lcB_le, lcB_ge] at *
          simp only [*, if_true, if_false]
          repeat (first | omega | exact w32_of (by omega) (by omega) | split)
      · skip
        refine Ev.ldc2 (q := 47) dX12_between_44 klX12_180 klvX12_180 rfl ?_
        refine Ev.goto (q := 65) dX12_between_47 (by decide) ?_
        refine Ev.l2i (q := 66) dX12_between_65 rfl ?_
        refine rI dX12_between_66 rfl ?_
        refine ⟨?_, rfl⟩
        simp (disch := omega) only [w32_of, w64_of, lcB_lt, lcB_gt, lcB_le, lcB_ge] at *
        simp only [*, if_true, if_false]
        repeat (first | omega | exact w32_of (by omega) (by omega) | split)
  · skip
    refine Ev.iload_n (q := 8) dX12_between_7 rfl rfl ?_
    refine Ev.i2l (q := 9) dX12_between_8 rfl ?_
    refine Ev.iload_n (q := 10) dX12_between_9 rfl rfl ?_
    refine Ev.i2l (q := 11) dX12_between_10 rfl ?_
    refine Ev.ladd (q := 12) dX12_between_11 rfl ?_
    refine Ev.goto (q := 35) dX12_between_12 (by decide) ?_
    refine lstore_n_3 (q := 36) dX12_between_35 rfl rfl rfl ?_
    refine Ev.lload_n (q := 37) dX12_between_36 rfl rfl ?_
    refine Ev.ldc2 (q := 40) dX12_between_37 klX12_180 klvX12_180 rfl ?_
    refine Ev.lcmp (q := 41) dX12_between_40 rfl ?_
    refine Ev.if_le (tgt := 50) (q := 44) dX12_between_41 (by decide) rfl (fun h7 => ?_) (fun h7 => ?_)
    · skip
      refine Ev.lload_n (q := 51) dX12_between_50 rfl rfl ?_
      refine Ev.ldc2 (q := 54) dX12_between_51 klX12_182 klvX12_182 rfl ?_
      refine Ev.lcmp (q := 55) dX12_between_54 rfl ?_
      refine Ev.if_ge (tgt := 64) (q := 58) dX12_between_55 (by decide) rfl (fun h8 => ?_) (fun h8 => ?_)
      · skip
        refine Ev.lload_n (q := 65) dX12_between_64 rfl rfl ?_
        refine Ev.l2i (q := 66) dX12_between_65 rfl ?_
        refine rI dX12_between_66 rfl ?_
        refine ⟨?_, rfl⟩
        simp (disch := omega) only [w32_of, w64_of, lcB_lt, lcB_gt, lcB_le, lcB_ge] at *
        simp only [*, if_true, if_false]
        repeat (first | omega | exact w32_of (by omega) (by omega) | split)
      · skip
        refine Ev.ldc2 (q := 61) dX12_between_58 klX12_182 klvX12_182 rfl ?_
        refine Ev.goto (q := 65) dX12_between_61 (by decide) ?_
        refine Ev.l2i (q := 66) dX12_between_65 rfl ?_
        refine rI dX12_between_66 rfl ?_
        refine ⟨?_, rfl⟩
        simp (disch := omega) only [w32_of, w64_of, lcB_lt, lcB_gt, lcB_le, lcB_ge] at *
        simp only [*, if_true, if_false]
        repeat (first | omega | exact w32_of (by omega) (by omega) | split)
    · skip
      refine Ev.ldc2 (q := 47) dX12_between_44 klX12_180 klvX12_180 rfl ?_
      refine Ev.goto (q := 65) dX12_between_47 (by decide) ?_
      refine Ev.l2i (q := 66) dX12_between_65 rfl ?_
      refine rI dX12_between_66 rfl ?_
      refine ⟨?_, rfl⟩
      simp (disch := omega) only [w32_of, w64_of, lcB_lt, lcB_gt, lcB_le, lcB_ge] at *
      simp only [*, if_true, if_false]
      repeat (first | omega | exact w32_of (by omega) (by omega) | split)
set_option maxRecDepth 4000 in
theorem l_reckons {Γ : Gm} {d : Nat} {m0 : Mem} (al : Nat → Bool) (law fr N : Nat) (w c : Nat → Int) (hl : law < 2) (hok : okLaw al c N) (hfr : fr + N ≤ 900) (hw : ∀ i, i < 6 → al i = true → -1000000 ≤ w i ∧ w i ≤ 1000000) : ∀ (n k : Nat), k + n = N → ∀ (m : Mem) (v4 : Vl) (len : Nat), (evn w c k).length = len → Fr s216 m0 m → RS m (evn w c k) → m0 212 (6 + law) = fr → m0 212 (8 + law) = N → (∀ k, k < N → m0 212 (458 + fr + k) = c k) → (∀ i, i < 6 → m0 217 i = w i) → Em Γ (d + 1) MX12_reckons (fun r m' => r = lawV w c N ∧ Fr s216 m0 m') 4 [rv 211, iv law, iv len, iv k, v4] [] m := by
  intro n
  induction n with
  | zero =>
    intro k hk m v4 len hlen hF hR hg1 hg2 hgc hww
    obtain rfl : N = k := by omega
    have e1 : m 212 (6 + law) = fr := by rw [hF _ _ rfl]; exact hg1
    have e2 : m 212 (8 + law) = N := by rw [hF _ _ rfl]; exact hg2
    refine Ev.iload_n (q := 5) dX12_reckons_4 rfl rfl ?_
    refine Ev.aload_n (q := 6) dX12_reckons_5 rfl rfl ?_
    refine gR (q := 9) dX12_reckons_6 gfX12_13 k211 r211_1 rfl rfl ?_
    refine Ev.bipush (q := 11) dX12_reckons_9 kb_8 rfl ?_
    refine Ev.iload_n (q := 12) dX12_reckons_11 rfl rfl ?_
    refine Ev.iadd (q := 13) dX12_reckons_12 rfl ?_
    refine aI (q := 14) (k := 8 + law) dX12_reckons_13 k212 (by first | rfl | omega | (simp (disch := omega) only [w32_of]; omega)) (by omega) rfl ?_
    rw [e2]
    refine Ev.icmp_ge (tgt := 119) (q := 17) dX12_reckons_14 (by decide) rfl (fun h1 => ?_) (fun h1 => ?_)
    · skip
      have hlast := hR.last (hok.2.2 w)
      have hval : (evn w c N).getLastD 0 = m 216 0 := hlast.symm
      refine Ev.aload_n (q := 120) dX12_reckons_119 rfl rfl ?_
      refine gR (q := 123) dX12_reckons_120 gfX12_30 k211 r211_16 rfl rfl ?_
      refine Ev.iconst (q := 124) dX12_reckons_123 ki_0 rfl ?_
      refine aI (q := 125) (k := 0) dX12_reckons_124 k216 (by rfl) (by decide) rfl ?_
      refine Ev.if_ge (tgt := 132) (q := 128) dX12_reckons_125 (by decide) rfl (fun h2 => ?_) (fun h2 => ?_)
      · skip
        refine Ev.aload_n (q := 133) dX12_reckons_132 rfl rfl ?_
        refine gR (q := 136) dX12_reckons_133 gfX12_30 k211 r211_16 rfl rfl ?_
        refine Ev.iconst (q := 137) dX12_reckons_136 ki_0 rfl ?_
        refine aI (q := 138) (k := 0) dX12_reckons_137 k216 (by rfl) (by decide) rfl ?_
        refine Ev.sipush (q := 141) dX12_reckons_138 kh_999 rfl ?_
        refine Ev.icmp_le (tgt := 150) (q := 144) dX12_reckons_141 (by decide) rfl (fun h3 => ?_) (fun h3 => ?_)
        · skip
          refine Ev.aload_n (q := 151) dX12_reckons_150 rfl rfl ?_
          refine gR (q := 154) dX12_reckons_151 gfX12_30 k211 r211_16 rfl rfl ?_
          refine Ev.iconst (q := 155) dX12_reckons_154 ki_0 rfl ?_
          refine aI (q := 156) (k := 0) dX12_reckons_155 k216 (by rfl) (by decide) rfl ?_
          refine rI dX12_reckons_156 rfl ?_
          refine ⟨?_, hF⟩
          unfold lawV cl999
          rw [hval]
          split <;> (try split) <;> first | rfl | omega
        · skip
          refine Ev.sipush (q := 147) dX12_reckons_144 kh_999 rfl ?_
          refine Ev.goto (q := 156) dX12_reckons_147 (by decide) ?_
          refine rI dX12_reckons_156 rfl ?_
          refine ⟨?_, hF⟩
          unfold lawV cl999
          rw [hval]
          split <;> (try split) <;> first | rfl | omega
      · skip
        refine Ev.iconst (q := 129) dX12_reckons_128 ki_0 rfl ?_
        refine Ev.goto (q := 156) dX12_reckons_129 (by decide) ?_
        refine rI dX12_reckons_156 rfl ?_
        refine ⟨?_, hF⟩
        unfold lawV cl999
        rw [hval]
        split <;> (try split) <;> first | rfl | omega
    · skip
      omega
  | succ n ih =>
    intro k hk m v4 len hlen hF hR hg1 hg2 hgc hww
    have e1 : m 212 (6 + law) = fr := by rw [hF _ _ rfl]; exact hg1
    have e2 : m 212 (8 + law) = N := by rw [hF _ _ rfl]; exact hg2
    have hkN : k < N := by omega
    have hN := hok.1
    have hlk : len ≤ k := by rw [← hlen]; exact evn_len k
    have hck := hok.2.1 k hkN
    have hbd := evn_bd (c := c) hw k (fun j hj => ⟨(hok.2.1 j (by omega)).1, (hok.2.1 j (by omega)).2.1⟩)
    refine Ev.iload_n (q := 5) dX12_reckons_4 rfl rfl ?_
    refine Ev.aload_n (q := 6) dX12_reckons_5 rfl rfl ?_
    refine gR (q := 9) dX12_reckons_6 gfX12_13 k211 r211_1 rfl rfl ?_
    refine Ev.bipush (q := 11) dX12_reckons_9 kb_8 rfl ?_
    refine Ev.iload_n (q := 12) dX12_reckons_11 rfl rfl ?_
    refine Ev.iadd (q := 13) dX12_reckons_12 rfl ?_
    refine aI (q := 14) (k := 8 + law) dX12_reckons_13 k212 (by first | rfl | omega | (simp (disch := omega) only [w32_of]; omega)) (by omega) rfl ?_
    rw [e2]
    refine Ev.icmp_ge (tgt := 119) (q := 17) dX12_reckons_14 (by decide) rfl (fun h1 => ?_) (fun h1 => ?_)
    · skip
      omega
    · skip
      refine Ev.aload_n (q := 18) dX12_reckons_17 rfl rfl ?_
      refine gR (q := 21) dX12_reckons_18 gfX12_13 k211 r211_1 rfl rfl ?_
      refine Ev.sipush (q := 24) dX12_reckons_21 kh_458 rfl ?_
      refine Ev.aload_n (q := 25) dX12_reckons_24 rfl rfl ?_
      refine gR (q := 28) dX12_reckons_25 gfX12_13 k211 r211_1 rfl rfl ?_
      refine Ev.bipush (q := 30) dX12_reckons_28 kb_6 rfl ?_
      refine Ev.iload_n (q := 31) dX12_reckons_30 rfl rfl ?_
      refine Ev.iadd (q := 32) dX12_reckons_31 rfl ?_
      refine aI (q := 33) (k := 6 + law) dX12_reckons_32 k212 (by first | rfl | omega | (simp (disch := omega) only [w32_of]; omega)) (by omega) rfl ?_
      rw [e1]
      refine Ev.iadd (q := 34) dX12_reckons_33 rfl ?_
      refine Ev.iload_n (q := 35) dX12_reckons_34 rfl rfl ?_
      refine Ev.iadd (q := 36) dX12_reckons_35 rfl ?_
      refine aI (q := 37) (k := 458 + fr + k) dX12_reckons_36 k212 (by first | rfl | omega | (simp (disch := omega) only [w32_of]; omega)) (by omega) rfl ?_
      rw [show m 212 (458 + fr + k) = c k by rw [hF _ _ rfl]; exact hgc k hkN]
      refine istore_4 (q := 39) dX12_reckons_37 rfl rfl rfl ?_
      refine Ev.iload (q := 41) dX12_reckons_39 rfl rfl ?_
      refine Ev.sipush (q := 44) dX12_reckons_41 kh_3000 rfl ?_
      refine Ev.icmp_ge (tgt := 83) (q := 47) dX12_reckons_44 (by decide) rfl (fun h2 => ?_) (fun h2 => ?_)
      · skip
        obtain ⟨hc3, hc2⟩ := (hok.2.1 k hkN).2.2 h2
        have hl2 := hc2 w
        obtain ⟨b9, a9, t, hst⟩ : ∃ b9 a9 t, evn w c k = b9 :: a9 :: t := by
          match hq : evn w c k, hl2 with
          | b9 :: a9 :: t, _ => exact ⟨b9, a9, t, rfl⟩
        rw [hst] at hR hlen hbd
        have hlt : len = t.length + 2 := by rw [← hlen]; rfl
        subst hlt
        obtain ⟨r1, r2⟩ := hR.two
        have ba := hbd a9 (by simp)
        have bb := hbd b9 (by simp)
        refine iinc_2 (q := 86) dX12_reckons_83 rfl rfl rfl ?_
        refine Ev.aload_n (q := 87) dX12_reckons_86 rfl rfl ?_
        refine gR (q := 90) dX12_reckons_87 gfX12_30 k211 r211_16 rfl rfl ?_
        refine Ev.iload_n (q := 91) dX12_reckons_90 rfl rfl ?_
        refine Ev.iconst (q := 92) dX12_reckons_91 ki_1 rfl ?_
        refine Ev.isub (q := 93) dX12_reckons_92 rfl ?_
        refine Ev.iload (q := 95) dX12_reckons_93 rfl rfl ?_
        refine Ev.aload_n (q := 96) dX12_reckons_95 rfl rfl ?_
        refine gR (q := 99) dX12_reckons_96 gfX12_30 k211 r211_16 rfl rfl ?_
        refine Ev.iload_n (q := 100) dX12_reckons_99 rfl rfl ?_
        refine Ev.iconst (q := 101) dX12_reckons_100 ki_1 rfl ?_
        refine Ev.isub (q := 102) dX12_reckons_101 rfl ?_
        refine aI (q := 103) (k := t.length) dX12_reckons_102 k216 (by first | rfl | omega | (simp (disch := omega) only [w32_of]; omega)) (by omega) rfl ?_
        refine Ev.aload_n (q := 104) dX12_reckons_103 rfl rfl ?_
        refine gR (q := 107) dX12_reckons_104 gfX12_30 k211 r211_16 rfl rfl ?_
        refine Ev.iload_n (q := 108) dX12_reckons_107 rfl rfl ?_
        refine aI (q := 109) (k := t.length + 1) dX12_reckons_108 k216 (by first | rfl | omega | (simp (disch := omega) only [w32_of]; omega)) (by omega) rfl ?_
        refine cS3i (q := 112) (d' := d + 0) dX12_reckons_109 mlX12_184 moX12_between msX12_between rfl rfl (Nat.le_refl _) rfl rfl rfl (p_X12_between _ _ _ (by rw [r1]; exact ba) (by rw [r2]; exact bb)) (fun r3 m3 e3 => ?_)
        obtain ⟨rfl, rfl⟩ := e3
        refine sI (q := 113) (k := t.length) dX12_reckons_112 k216 (by first | rfl | omega | (simp (disch := omega) only [w32_of]; omega)) (by omega) rfl ?_
        refine iinc_3 (q := 116) dX12_reckons_113 rfl rfl rfl ?_
        refine Ev.goto (q := 4) dX12_reckons_116 (by decide) ?_
        rw [r1, r2]
        have hst2 : evn w c (k + 1) = (let v := if c k = 3000 then a9 + b9 else if c k = 3001 then a9 - b9 else a9 * b9; if v > 1000000 then 1000000 else if v < -1000000 then -1000000 else v) :: t := by
          show evs w (evn w c k) (c k) = _
          rw [hst]
          unfold evs
          rw [if_neg (by omega)]
        have hl9 : w32 (((t.length + 2 : Nat) : Int) + (-1)) = ((t.length + 1 : Nat) : Int) := by rw [w32_of (by omega) (by omega)]; omega
        rw [hl9, w32_of (by omega) (by omega)]
        refine ih (k + 1) (by omega) _ _ (t.length + 1) (by rw [hst2]; rfl) (hF.up rfl) ?_ hg1 hg2 hgc hww
        rw [hst2]
        exact hR.tail.tail.push
      · skip
        refine Ev.aload_n (q := 48) dX12_reckons_47 rfl rfl ?_
        refine gR (q := 51) dX12_reckons_48 gfX12_30 k211 r211_16 rfl rfl ?_
        refine Ev.iload_n (q := 52) dX12_reckons_51 rfl rfl ?_
        refine Ev.iload (q := 54) dX12_reckons_52 rfl rfl ?_
        refine Ev.sipush (q := 57) dX12_reckons_54 kh_1000 rfl ?_
        refine Ev.icmp_ge (tgt := 65) (q := 60) dX12_reckons_57 (by decide) rfl (fun h4 => ?_) (fun h4 => ?_)
        · skip
          have hc6 : c k < 1006 ∧ al (c k - 1000).toNat = true := by
            rcases hck.2.1 (by omega) with q9 | q9
            · omega
            · exact q9
          obtain ⟨hc6, hal⟩ := hc6
          refine Ev.aload_n (q := 66) dX12_reckons_65 rfl rfl ?_
          refine gR (q := 69) dX12_reckons_66 gfX12_33 k211 r211_17 rfl rfl ?_
          refine Ev.iload (q := 71) dX12_reckons_69 rfl rfl ?_
          refine Ev.sipush (q := 74) dX12_reckons_71 kh_1000 rfl ?_
          refine Ev.isub (q := 75) dX12_reckons_74 rfl ?_
          refine aI (q := 76) (k := (c k - 1000).toNat) dX12_reckons_75 k217 (by first | rfl | omega | (simp (disch := omega) only [w32_of]; omega)) (by omega) rfl ?_
          skip
          refine sI (q := 77) (k := len) dX12_reckons_76 k216 (by first | rfl | omega | (simp (disch := omega) only [w32_of]; omega)) (by omega) rfl ?_
          refine iinc_2 (q := 80) dX12_reckons_77 rfl rfl rfl ?_
          refine Ev.goto (q := 113) dX12_reckons_80 (by decide) ?_
          refine iinc_3 (q := 116) dX12_reckons_113 rfl rfl rfl ?_
          refine Ev.goto (q := 4) dX12_reckons_116 (by decide) ?_
          have hst : evn w c (k + 1) = (if c k < 1000 then c k else w (c k - 1000).toNat) :: evn w c k := by
            show evs w (evn w c k) (c k) = _
            unfold evs
            rw [if_pos (by omega)]
          rw [w32_of (by omega) (by omega), w32_of (by omega) (by omega)]
          refine ih (k + 1) (by omega) _ _ (len + 1) (by rw [hst, List.length_cons, hlen]) (hF.up rfl) ?_ hg1 hg2 hgc hww
          rw [hst]
          have hp := hR.push (v := if c k < 1000 then c k else w (c k - 1000).toNat)
          rw [hlen] at hp
          rw [if_neg (by omega), ← hww _ (by omega), ← hF 217 _ rfl] at hp ⊢
          exact hp
        · skip
          refine Ev.iload (q := 62) dX12_reckons_60 rfl rfl ?_
          refine Ev.goto (q := 76) dX12_reckons_62 (by decide) ?_
          skip
          refine sI (q := 77) (k := len) dX12_reckons_76 k216 (by first | rfl | omega | (simp (disch := omega) only [w32_of]; omega)) (by omega) rfl ?_
          refine iinc_2 (q := 80) dX12_reckons_77 rfl rfl rfl ?_
          refine Ev.goto (q := 113) dX12_reckons_80 (by decide) ?_
          refine iinc_3 (q := 116) dX12_reckons_113 rfl rfl rfl ?_
          refine Ev.goto (q := 4) dX12_reckons_116 (by decide) ?_
          have hst : evn w c (k + 1) = (if c k < 1000 then c k else w (c k - 1000).toNat) :: evn w c k := by
            show evs w (evn w c k) (c k) = _
            unfold evs
            rw [if_pos (by omega)]
          rw [w32_of (by omega) (by omega), w32_of (by omega) (by omega)]
          refine ih (k + 1) (by omega) _ _ (len + 1) (by rw [hst, List.length_cons, hlen]) (hF.up rfl) ?_ hg1 hg2 hgc hww
          rw [hst]
          have hp := hR.push (v := if c k < 1000 then c k else w (c k - 1000).toNat)
          rw [hlen] at hp
          rw [if_pos (by omega)] at hp ⊢
          exact hp
set_option maxRecDepth 4000 in
theorem p_X12_reckons {Γ : Gm} {d : Nat} {m : Mem} (al : Nat → Bool) (law fr N : Nat) (hl : law < 2) (hok : okLaw al (fun k => m 212 (458 + fr + k)) N) (hfr : fr + N ≤ 900) (hw : ∀ i, i < 6 → al i = true → -1000000 ≤ m 217 i ∧ m 217 i ≤ 1000000) (hg1 : m 212 (6 + law) = fr) (hg2 : m 212 (8 + law) = N) : Ci Γ (d + 1) MX12_reckons [rv 211, iv law] m (fun r m' => r = lawV (m 217) (fun k => m 212 (458 + fr + k)) N ∧ Fr s216 m m') := by
  refine Ci.of moX12_reckons rfl rfl (fun hA hM => ?_)
  show Em Γ (d + 1) MX12_reckons _ 0 [rv 211, iv law, uv, uv, uv] [] m
  refine Ev.iconst (q := 1) dX12_reckons_0 ki_0 rfl ?_
  refine istore_n_2 (q := 2) dX12_reckons_1 rfl rfl rfl ?_
  refine Ev.iconst (q := 3) dX12_reckons_2 ki_0 rfl ?_
  refine istore_n_3 (q := 4) dX12_reckons_3 rfl rfl rfl ?_
  exact l_reckons al law fr N (m 217) (fun k => m 212 (458 + fr + k)) hl hok hfr hw N 0 (by omega) m uv 0 rfl (Fr.rf _ _) (fun j hj => absurd hj (by simp [evn])) hg1 hg2 (fun _ _ => rfl) (fun _ _ => rfl)
set_option maxRecDepth 4000 in
theorem p_X12_stopOf {Γ : Gm} {d : Nat} {m : Mem} (l f n : Nat) (hl : l < 3) (hf : f < 12) (hn : n < 13) (hlaw : LawOk (m 212) 1) : Ci Γ (d + 2) MX12_stopOf [rv 211, iv l, iv f, iv n] m (fun r m' => r = stopV (m 212) l f n ∧ Fr s1617 m m') := by
  refine Ci.of moX12_stopOf rfl rfl (fun hA hM => ?_)
  show Em Γ (d + 2) MX12_stopOf _ 0 [rv 211, iv l, iv f, iv n] [] m
  refine Ev.aload_n (q := 1) dX12_stopOf_0 rfl rfl ?_
  refine gR (q := 4) dX12_stopOf_1 gfX12_13 k211 r211_1 rfl rfl ?_
  refine Ev.iconst (q := 5) dX12_stopOf_4 ki_5 rfl ?_
  refine aI (q := 6) (k := 5) dX12_stopOf_5 k212 (by rfl) (by decide) rfl ?_
  refine Ev.if_ne (tgt := 19) (q := 9) dX12_stopOf_6 (by decide) rfl (fun h1 => ?_) (fun h1 => ?_)
  · skip
    refine Ev.aload_n (q := 20) dX12_stopOf_19 rfl rfl ?_
    refine gR (q := 23) dX12_stopOf_20 gfX12_33 k211 r211_17 rfl rfl ?_
    refine Ev.iconst (q := 24) dX12_stopOf_23 ki_0 rfl ?_
    refine Ev.iload_n (q := 25) dX12_stopOf_24 rfl rfl ?_
    refine sI (q := 26) (k := 0) dX12_stopOf_25 k217 (by rfl) (by decide) rfl ?_
    refine Ev.aload_n (q := 27) dX12_stopOf_26 rfl rfl ?_
    refine gR (q := 30) dX12_stopOf_27 gfX12_33 k211 r211_17 rfl rfl ?_
    refine Ev.iconst (q := 31) dX12_stopOf_30 ki_4 rfl ?_
    refine Ev.iload_n (q := 32) dX12_stopOf_31 rfl rfl ?_
    refine sI (q := 33) (k := 4) dX12_stopOf_32 k217 (by rfl) (by decide) rfl ?_
    refine Ev.aload_n (q := 34) dX12_stopOf_33 rfl rfl ?_
    refine gR (q := 37) dX12_stopOf_34 gfX12_33 k211 r211_17 rfl rfl ?_
    refine Ev.iconst (q := 38) dX12_stopOf_37 ki_5 rfl ?_
    refine Ev.iload_n (q := 39) dX12_stopOf_38 rfl rfl ?_
    refine sI (q := 40) (k := 5) dX12_stopOf_39 k217 (by rfl) (by decide) rfl ?_
    have e0 : ∀ k, (up (up (up m 217 0 f) 217 4 n) 217 5 l) 212 k = m 212 k := fun k => by simp (disch := omega) only [up_o]
    have ew : ∀ i, alw 1 i = true → (up (up (up m 217 0 f) 217 4 n) 217 5 l) 217 i = stW l f n i := fun i hi => by
      unfold stW
      have hi' : i = 0 ∨ i = 4 ∨ i = 5 := by simpa [alw, or_assoc] using hi
      rcases hi' with rfl | rfl | rfl <;> simp (disch := omega) only [up_k, up_eq] <;> rfl
    obtain ⟨fr, N, q1, q2, q3, q4⟩ := (hlaw.resolve_left h1).2
    refine Ev.aload_n (q := 41) dX12_stopOf_40 rfl rfl ?_
    refine Ev.iconst (q := 42) dX12_stopOf_41 ki_1 rfl ?_
    refine cV1i (q := 45) (d' := d + 1) dX12_stopOf_42 mlX12_188 moX12_reckons mvX12_reckons k211 rfl rfl rfl (Nat.le_refl _) rfl rfl rfl (p_X12_reckons (alw 1) 1 fr N (by decide) (by simp only [e0]; exact q4) q3 (fun i _ hi => by rw [ew i hi]; unfold stW; repeat (first | omega | split)) ((e0 7).trans q1) ((e0 9).trans q2)) (fun r2 m2 e2 => ?_)
    obtain ⟨rfl, hf9⟩ := e2
    refine rI dX12_stopOf_45 rfl ?_
    refine ⟨?_, ?_⟩
    · unfold stopV lawOf
      rw [if_neg h1, q1, q2]
      simp only [e0, Int.toNat_natCast]
      exact lawV_congr (al := alw 1) q4 (fun i _ hi => ew i hi)
    · exact ((((Fr.rf s1617 m).up rfl).up rfl).up rfl).tr (hf9.mono (fun a k q => by unfold s1617 at q; unfold s216; simp at q ⊢; exact q.1))
  · skip
    refine Ev.aload_n (q := 10) dX12_stopOf_9 rfl rfl ?_
    refine gR (q := 13) dX12_stopOf_10 gfX12_13 k211 r211_1 rfl rfl ?_
    refine Ev.bipush (q := 15) dX12_stopOf_13 kb_25 rfl ?_
    refine Ev.iload_n (q := 16) dX12_stopOf_15 rfl rfl ?_
    refine Ev.iadd (q := 17) dX12_stopOf_16 rfl ?_
    refine aI (q := 18) (k := 25 + l) dX12_stopOf_17 k212 (by first | rfl | omega | (simp (disch := omega) only [w32_of]; omega)) (by omega) rfl ?_
    refine rI dX12_stopOf_18 rfl ?_
    exact ⟨by unfold stopV; rw [if_pos h1], Fr.rf _ _⟩
