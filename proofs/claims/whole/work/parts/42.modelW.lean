/-! ===== the reference: what was seen, as it can be; common divisors ===== -/
def badS (g num : Nat → Int) : Nat → Bool
  | 0 => false
  | n + 1 => badS g num n || (if n % 2 = 0 then !isF g (num n) else decide (num n < 0))
def nosV (g num : Nat → Int) (sort : Int) (many : Nat) (t l : Int) : Int :=
  if ¬ (0 ≤ t ∧ t ≤ 3) ∨ isL g l = false then -2 else if sort = -1 then -6 else if many % 2 = 1 ∨ ¬ (2 ≤ many ∧ many ≤ 16) then -4 else if badS g num many = true then -3 else 0
theorem badS_mono {g num : Nat → Int} {k : Nat} (h : badS g num k = true) : ∀ n, k ≤ n → badS g num n = true := by
  intro n
  induction n with
  | zero => intro hn; obtain rfl : k = 0 := by omega
            exact h
  | succ n ih =>
    intro hn
    by_cases e : k = n + 1
    · rw [← e]; exact h
    · unfold badS
      rw [ih (by omega)]
      rfl
set_option maxRecDepth 4000 in
theorem l_noSeen {Γ : Gm} {d : Nat} {m : Mem} (t N : Nat) (x2 x3 : Int) (ht : t < 4) (hN : N ≤ 16) (hI : HI (m 212)) : ∀ (n k : Nat), k + n = N → badS (m 212) (fun i => m 222 (40 * t + i)) k = false → Em Γ (d + 2) MX12_noSeen (fun r m' => r = (if badS (m 212) (fun i => m 222 (40 * t + i)) N = true then -3 else 0) ∧ m' = m) 73 [rv 211, iv t, iv x2, iv x3, iv N, iv k] [] m := by
  intro n
  induction n with
  | zero =>
    intro k hk hb
    obtain rfl : N = k := by omega
    refine Ev.iload (q := 75) dX12_noSeen_73 rfl rfl ?_
    refine Ev.iload (q := 77) dX12_noSeen_75 rfl rfl ?_
    refine Ev.icmp_ge (tgt := 135) (q := 80) dX12_noSeen_77 (by decide) rfl (fun h1 => ?_) (fun h1 => ?_)
    · skip
      refine Ev.iconst (q := 136) dX12_noSeen_135 ki_0 rfl ?_
      refine rI dX12_noSeen_136 rfl ?_
      exact ⟨by rw [hb]; rfl, rfl⟩
    · skip
      omega
  | succ n ih =>
    intro k hk hb
    refine Ev.iload (q := 75) dX12_noSeen_73 rfl rfl ?_
    refine Ev.iload (q := 77) dX12_noSeen_75 rfl rfl ?_
    refine Ev.icmp_ge (tgt := 135) (q := 80) dX12_noSeen_77 (by decide) rfl (fun h1 => ?_) (fun h1 => ?_)
    · skip
      omega
    · skip
      refine Ev.iload (q := 82) dX12_noSeen_80 rfl rfl ?_
      refine Ev.iconst (q := 83) dX12_noSeen_82 ki_2 rfl ?_
      refine Ev.irem (q := 84) dX12_noSeen_83 (by decide) rfl ?_
      rw [show o_irem (k : Int) 2 = ((k % 2 : Nat) : Int) from irem_n (a := k) (b := 2) (by omega) (by decide) (by decide)]
      refine Ev.if_ne (tgt := 109) (q := 87) dX12_noSeen_84 (by decide) rfl (fun h2 => ?_) (fun h2 => ?_)
      · skip
        have hk2 : ¬ k % 2 = 0 := by omega
        refine Ev.aload_n (q := 110) dX12_noSeen_109 rfl rfl ?_
        refine gR (q := 113) dX12_noSeen_110 gfX12_48 k211 r211_34 rfl rfl ?_
        refine Ev.bipush (q := 115) dX12_noSeen_113 kb_40 rfl ?_
        refine Ev.iload_n (q := 116) dX12_noSeen_115 rfl rfl ?_
        refine Ev.imul (q := 117) dX12_noSeen_116 rfl ?_
        refine Ev.iload (q := 119) dX12_noSeen_117 rfl rfl ?_
        refine Ev.iadd (q := 120) dX12_noSeen_119 rfl ?_
        refine aJ (q := 121) (k := 40 * t + k) dX12_noSeen_120 k222 (by first | rfl | omega | (simp (disch := omega) only [w32_of]; omega)) (by omega) rfl ?_
        refine Ev.lconst (q := 122) dX12_noSeen_121 kj_0 rfl ?_
        refine Em.ok (fun hL9 hS9 hM9 => ?_)
        have q1 := okV_j (okA_0 hS9)
        have q2 := okV_j (okA_1 hS9)
        refine Ev.lcmp (q := 123) dX12_noSeen_122 rfl ?_
        refine Ev.if_ge (tgt := 129) (q := 126) dX12_noSeen_123 (by decide) rfl (fun h3 => ?_) (fun h3 => ?_)
        · skip
          rw [lcmp_ge q2 q1] at h3
          refine iinc_5 (q := 132) dX12_noSeen_129 rfl rfl rfl ?_
          refine Ev.goto (q := 73) dX12_noSeen_132 (by decide) ?_
          rw [w32_of (by omega) (by omega)]
          refine ih (k + 1) (by omega) ?_
          unfold badS
          rw [hb]
          rw [if_neg hk2, decide_eq_false (show ¬ m 222 (40 * t + k) < 0 by omega)]; rfl
        · skip
          rw [lcmp_ge q2 q1] at h3
          refine Ev.bipush (q := 128) dX12_noSeen_126 kb_m3 rfl ?_
          refine rI dX12_noSeen_128 rfl ?_
          refine ⟨?_, rfl⟩
          have hbk : badS (m 212) (fun i => m 222 (40 * t + i)) (k + 1) = true := by
            unfold badS
            rw [if_neg hk2, decide_eq_true (show m 222 (40 * t + k) < 0 by omega), Bool.or_true]
          rw [if_pos (badS_mono hbk N (by omega))]
      · skip
        have hk2 : k % 2 = 0 := by omega
        refine Ev.aload_n (q := 88) dX12_noSeen_87 rfl rfl ?_
        refine Ev.aload_n (q := 89) dX12_noSeen_88 rfl rfl ?_
        refine gR (q := 92) dX12_noSeen_89 gfX12_48 k211 r211_34 rfl rfl ?_
        refine Ev.bipush (q := 94) dX12_noSeen_92 kb_40 rfl ?_
        refine Ev.iload_n (q := 95) dX12_noSeen_94 rfl rfl ?_
        refine Ev.imul (q := 96) dX12_noSeen_95 rfl ?_
        refine Ev.iload (q := 98) dX12_noSeen_96 rfl rfl ?_
        refine Ev.iadd (q := 99) dX12_noSeen_98 rfl ?_
        refine aJ (q := 100) (k := 40 * t + k) dX12_noSeen_99 k222 (by first | rfl | omega | (simp (disch := omega) only [w32_of]; omega)) (by omega) rfl ?_
        refine cV1i (q := 103) (d' := d + 1) dX12_noSeen_100 mlX12_243 moX12_isFloor mvX12_isFloor k211 rfl rfl rfl (Nat.le_refl _) rfl rfl rfl (p_X12_isFloor _ (by have := hI.1; omega)) (fun r4 m4 e4 => ?_)
        obtain ⟨rfl, e4⟩ := e4
        obtain rfl := e4.symm
        refine Ev.if_ne (tgt := 129) (q := 106) dX12_noSeen_103 (by decide) rfl (fun h5 => ?_) (fun h5 => ?_)
        · skip
          have hfl : isF (m 212) (m 222 (40 * t + k)) = true := by unfold isF; apply decide_eq_true; split at h5 <;> simp_all
          refine iinc_5 (q := 132) dX12_noSeen_129 rfl rfl rfl ?_
          refine Ev.goto (q := 73) dX12_noSeen_132 (by decide) ?_
          rw [w32_of (by omega) (by omega)]
          refine ih (k + 1) (by omega) ?_
          unfold badS
          rw [hb]
          rw [if_pos hk2, hfl]; rfl
        · skip
          have hfl : isF (m 212) (m 222 (40 * t + k)) = false := by unfold isF; apply decide_eq_false; split at h5 <;> simp_all
          refine Ev.goto (q := 126) dX12_noSeen_106 (by decide) ?_
          refine Ev.bipush (q := 128) dX12_noSeen_126 kb_m3 rfl ?_
          refine rI dX12_noSeen_128 rfl ?_
          refine ⟨?_, rfl⟩
          have hbk : badS (m 212) (fun i => m 222 (40 * t + i)) (k + 1) = true := by
            unfold badS
            rw [if_pos hk2, hfl, Bool.not_false, Bool.or_true]
          rw [if_pos (badS_mono hbk N (by omega))]
set_option maxRecDepth 4000 in
theorem p_X12_noSeen {Γ : Gm} {d : Nat} {m : Mem} (t l : Int) (hI : HI (m 212)) (h221 : ∀ i, i < 4 → 0 ≤ m 221 i ∧ m 221 i ≤ 40) : Ci Γ (d + 2) MX12_noSeen [rv 211, iv t, iv l] m (fun r m' => r = nosV (m 212) (fun i => m 222 (40 * t.toNat + i)) (m 220 t.toNat) (m 221 t.toNat).toNat t l ∧ m' = m) := by
  refine Ci.of moX12_noSeen rfl rfl (fun hA hM => ?_)
  show Em Γ (d + 2) MX12_noSeen _ 0 [rv 211, iv t, iv l, uv, uv, uv] [] m
  refine Ev.iload_n (q := 1) dX12_noSeen_0 rfl rfl ?_
  refine Ev.i2l (q := 2) dX12_noSeen_1 rfl ?_
  refine Ev.lconst (q := 3) dX12_noSeen_2 kj_0 rfl ?_
  refine Ev.ldc2 (q := 6) dX12_noSeen_3 klX12_323 klvX12_323 rfl ?_
  refine cS3i (q := 9) (d' := d + 1) dX12_noSeen_6 mlX12_118 moX12_within msX12_within rfl rfl (Nat.le_refl _) rfl rfl rfl (p_X12_within _ _ _) (fun r1 m1 e1 => ?_)
  obtain ⟨rfl, e1⟩ := e1
  obtain rfl := e1.symm
  refine Ev.if_eq (tgt := 21) (q := 12) dX12_noSeen_9 (by decide) rfl (fun h2 => ?_) (fun h2 => ?_)
  · skip
    have hT : ¬ (0 ≤ t ∧ t ≤ 3) := by split at h2 <;> omega
    refine Ev.bipush (q := 23) dX12_noSeen_21 kb_m2 rfl ?_
    refine rI dX12_noSeen_23 rfl ?_
    refine ⟨?_, rfl⟩
    unfold nosV
    rw [if_pos (Or.inl hT)]
  · skip
    have hT : 0 ≤ t ∧ t ≤ 3 := by split at h2 <;> omega
    obtain ⟨tn, rfl⟩ : ∃ tn : Nat, t = tn := ⟨t.toNat, by omega⟩
    refine Ev.aload_n (q := 13) dX12_noSeen_12 rfl rfl ?_
    refine Ev.iload_n (q := 14) dX12_noSeen_13 rfl rfl ?_
    refine Ev.i2l (q := 15) dX12_noSeen_14 rfl ?_
    refine cV1i (q := 18) (d' := d + 1) dX12_noSeen_15 mlX12_230 moX12_isLift mvX12_isLift k211 rfl rfl rfl (Nat.le_refl _) rfl rfl rfl (p_X12_isLift l (by have := hI.2.1; omega)) (fun r3 m3 e3 => ?_)
    obtain ⟨rfl, e3⟩ := e3
    obtain rfl := e3.symm
    refine Ev.if_ne (tgt := 24) (q := 21) dX12_noSeen_18 (by decide) rfl (fun h4 => ?_) (fun h4 => ?_)
    · skip
      have hLL : 0 ≤ l ∧ l < m 212 2 := by split at h4 <;> omega
      refine Ev.aload_n (q := 25) dX12_noSeen_24 rfl rfl ?_
      refine Ev.iload_n (q := 26) dX12_noSeen_25 rfl rfl ?_
      refine cV1i (q := 29) (d' := d + 1) dX12_noSeen_26 mlX12_325 moX12_noTray mvX12_noTray k211 rfl rfl rfl (Nat.le_refl _) rfl rfl rfl (p_X12_noTray _) (fun r5 m5 e5 => ?_)
      obtain ⟨rfl, e5⟩ := e5
      obtain rfl := e5.symm
      rw [if_neg (by omega)]
      rw [Int.toNat_natCast] at *
      have hq := h221 tn (by omega)
      obtain ⟨N, hN⟩ : ∃ N : Nat, m 221 tn = N := ⟨(m 221 tn).toNat, by omega⟩
      have hnos : nosV (m 212) (fun i => m 222 (40 * tn + i)) (m 220 tn) (m 221 tn).toNat tn l = if m 220 tn = -1 then -6 else if N % 2 = 1 ∨ ¬ (2 ≤ N ∧ N ≤ 16) then -4 else if badS (m 212) (fun i => m 222 (40 * tn + i)) N = true then -3 else 0 := by
        unfold nosV isL
        rw [if_neg (by simp only [decide_eq_false_iff_not]; omega), hN, Int.toNat_natCast]
      rw [hnos]
      refine istore_n_3 (q := 30) dX12_noSeen_29 rfl rfl rfl ?_
      refine Ev.iload_n (q := 31) dX12_noSeen_30 rfl rfl ?_
      refine Ev.if_eq (tgt := 36) (q := 34) dX12_noSeen_31 (by decide) rfl (fun h6 => ?_) (fun h6 => ?_)
      · skip
        have hs : ¬ m 220 tn = -1 := by split at h6 <;> simp_all
        rw [if_neg hs]
        rw [if_neg hs]
        refine Ev.aload_n (q := 37) dX12_noSeen_36 rfl rfl ?_
        refine gR (q := 40) dX12_noSeen_37 gfX12_45 k211 r211_33 rfl rfl ?_
        refine Ev.iload_n (q := 41) dX12_noSeen_40 rfl rfl ?_
        refine aI (q := 42) (k := tn) dX12_noSeen_41 k221 (by first | rfl | omega | (simp (disch := omega) only [w32_of]; omega)) (by omega) rfl ?_
        rw [hN]
        refine istore_4 (q := 44) dX12_noSeen_42 rfl rfl rfl ?_
        refine Ev.iload (q := 46) dX12_noSeen_44 rfl rfl ?_
        refine Ev.iconst (q := 47) dX12_noSeen_46 ki_2 rfl ?_
        refine Ev.irem (q := 48) dX12_noSeen_47 (by decide) rfl ?_
        rw [show o_irem (N : Int) 2 = ((N % 2 : Nat) : Int) from irem_n (a := N) (b := 2) (by omega) (by decide) (by decide)]
        refine Ev.iconst (q := 49) dX12_noSeen_48 ki_1 rfl ?_
        refine Ev.icmp_eq (tgt := 67) (q := 52) dX12_noSeen_49 (by decide) rfl (fun h7 => ?_) (fun h7 => ?_)
        · skip
          refine Ev.bipush (q := 69) dX12_noSeen_67 kb_m4 rfl ?_
          refine rI dX12_noSeen_69 rfl ?_
          rw [if_pos (Or.inl (by omega))]; exact ⟨rfl, rfl⟩
        · skip
          refine Ev.iload (q := 54) dX12_noSeen_52 rfl rfl ?_
          refine Ev.i2l (q := 55) dX12_noSeen_54 rfl ?_
          refine Ev.ldc2 (q := 58) dX12_noSeen_55 klX12_414 klvX12_414 rfl ?_
          refine Ev.ldc2 (q := 61) dX12_noSeen_58 klX12_416 klvX12_416 rfl ?_
          refine cS3i (q := 64) (d' := d + 1) dX12_noSeen_61 mlX12_118 moX12_within msX12_within rfl rfl (Nat.le_refl _) rfl rfl rfl (p_X12_within _ _ _) (fun r8 m8 e8 => ?_)
          obtain ⟨rfl, e8⟩ := e8
          obtain rfl := e8.symm
          refine Ev.if_ne (tgt := 70) (q := 67) dX12_noSeen_64 (by decide) rfl (fun h9 => ?_) (fun h9 => ?_)
          · skip
            refine Ev.iconst (q := 71) dX12_noSeen_70 ki_0 rfl ?_
            refine istore_5 (q := 73) dX12_noSeen_71 rfl rfl rfl ?_
            rw [if_neg (by split at h6 <;> omega)]
            exact l_noSeen tn N _ _ (by omega) (by split at h6 <;> omega) hI N 0 (by omega) rfl
          · skip
            refine Ev.bipush (q := 69) dX12_noSeen_67 kb_m4 rfl ?_
            refine rI dX12_noSeen_69 rfl ?_
            rw [if_pos (Or.inr (by split at h6 <;> omega))]; exact ⟨rfl, rfl⟩
      · skip
        have hs : m 220 tn = -1 := by split at h6 <;> simp_all
        rw [if_pos hs]
        rw [if_pos hs]
        refine Ev.iload_n (q := 35) dX12_noSeen_34 rfl rfl ?_
        refine rI dX12_noSeen_35 rfl ?_
        exact ⟨rfl, rfl⟩
    · skip
      have hLL : ¬ (0 ≤ l ∧ l < m 212 2) := by split at h4 <;> omega
      refine Ev.bipush (q := 23) dX12_noSeen_21 kb_m2 rfl ?_
      refine rI dX12_noSeen_23 rfl ?_
      refine ⟨?_, rfl⟩
      unfold nosV isL
      rw [if_pos (Or.inr (decide_eq_false hLL))]
theorem lrem_t {a b : Int} (ha : -4611686018427387904 ≤ a ∧ a ≤ 4611686018427387904) (hb : -4611686018427387904 ≤ b ∧ b ≤ 4611686018427387904) (h0 : ¬ b = 0) : o_lrem a b = a.tmod b := by
  unfold o_lrem
  have e1 : (Int64.ofInt a).toInt = a := w64_of (by omega) (by omega)
  have e2 : (Int64.ofInt b).toInt = b := w64_of (by omega) (by omega)
  have hab : (a.tdiv b).natAbs ≤ a.natAbs := by rw [Int.natAbs_tdiv]; exact Nat.div_le_self _ _
  have e : Int64.ofInt a / Int64.ofInt b = Int64.ofInt (a.tdiv b) := by
    apply Int64.toInt_inj.1
    rw [Int64.toInt_div, e1, e2]
    generalize a.tdiv b = q at hab ⊢
    rw [show (Int64.ofInt q).toInt = q from w64_of (by omega) (by omega)]
    exact Int.bmod_eq_of_le (by omega) (by omega)
  rw [e, ← Int64.ofInt_mul, ← Int64.ofInt_sub]
  have h5 : a - a.tdiv b * b = a.tmod b := by
    have := Int.tmod_add_mul_tdiv a b
    rw [Int.mul_comm] at this
    omega
  rw [h5]
  have hm : (a.tmod b).natAbs ≤ a.natAbs := by rw [Int.natAbs_tmod]; exact Nat.mod_le _ _
  exact w64_of (by omega) (by omega)
theorem mod_half {a b : Nat} (hb : 0 < b) (h : b ≤ a) : 2 * (a % b) < a := by
  have h1 := Nat.mod_lt a hb
  have h2 := Nat.div_add_mod a b
  have h3 : 1 ≤ a / b := Nat.div_pos h hb
  have h4 : b * 1 ≤ b * (a / b) := Nat.mul_le_mul_left b h3
  omega
theorem gcd_tmod (a b : Int) : Int.gcd b (a.tmod b) = Int.gcd a b := by
  unfold Int.gcd
  rw [Int.natAbs_tmod, Nat.gcd_comm a.natAbs, Nat.gcd_rec b.natAbs a.natAbs, Nat.gcd_comm]
theorem gcd_z (a : Int) : (Int.gcd a 0 : Int) = if a < 0 then -a else a := by
  unfold Int.gcd
  rw [Int.natAbs_zero, Nat.gcd_zero_right]
  split <;> omega
set_option maxRecDepth 4000 in
theorem l_common {Γ : Gm} {d : Nat} {m : Mem} (a b : Int) (ha : -4611686018427387904 ≤ a ∧ a ≤ 4611686018427387904) (hb : -4611686018427387904 ≤ b ∧ b ≤ 4611686018427387904) (hrec : ¬ b = 0 → Ci Γ (d + 0) MX12_common [jv b, jv (a.tmod b)] m (fun r m' => r = (Int.gcd b (a.tmod b) : Int) ∧ m' = m)) : Ci Γ (d + 1) MX12_common [jv a, jv b] m (fun r m' => r = (Int.gcd a b : Int) ∧ m' = m) := by
  refine Ci.of moX12_common rfl rfl (fun hA hM => ?_)
  show Em Γ (d + 1) MX12_common _ 0 [jv a, uv, jv b, uv] [] m
  refine Ev.lload_n (q := 1) dX12_common_0 rfl rfl ?_
  refine Ev.lconst (q := 2) dX12_common_1 kj_0 rfl ?_
  refine Em.ok (fun hL9 hS9 hM9 => ?_)
  have q1 := okV_j (okA_0 hS9)
  have q2 := okV_j (okA_1 hS9)
  refine Ev.lcmp (q := 3) dX12_common_2 rfl ?_
  refine Ev.if_ne (tgt := 21) (q := 6) dX12_common_3 (by decide) rfl (fun h1 => ?_) (fun h1 => ?_)
  · skip
    rw [lcmp_z q2 q1] at h1
    refine Ev.lload_n (q := 22) dX12_common_21 rfl rfl ?_
    refine Ev.lload_n (q := 23) dX12_common_22 rfl rfl ?_
    refine Ev.lload_n (q := 24) dX12_common_23 rfl rfl ?_
    refine Ev.lrem (q := 25) dX12_common_24 (by assumption) rfl ?_
    rw [lrem_t ha hb (by assumption)]
    refine cS2j (q := 28) (d' := d + 0) dX12_common_25 mlX12_391 moX12_common msX12_common rfl rfl (Nat.le_refl _) rfl rfl rfl (hrec (by assumption)) (fun r2 m2 e2 => ?_)
    obtain ⟨rfl, e2⟩ := e2
    obtain rfl := e2.symm
    refine rJ dX12_common_28 rfl ?_
    exact ⟨by rw [gcd_tmod], rfl⟩
  · skip
    rw [lcmp_z q2 q1] at h1
    obtain rfl : b = 0 := h1
    refine Ev.lload_n (q := 7) dX12_common_6 rfl rfl ?_
    refine Ev.lconst (q := 8) dX12_common_7 kj_0 rfl ?_
    clear hL9 hS9 hM9 q1 q2
    refine Em.ok (fun hL9 hS9 hM9 => ?_)
    have q1 := okV_j (okA_0 hS9)
    have q2 := okV_j (okA_1 hS9)
    refine Ev.lcmp (q := 9) dX12_common_8 rfl ?_
    refine Ev.if_ge (tgt := 17) (q := 12) dX12_common_9 (by decide) rfl (fun h3 => ?_) (fun h3 => ?_)
    · skip
      rw [lcmp_ge q2 q1] at h3
      refine Ev.lload_n (q := 18) dX12_common_17 rfl rfl ?_
      refine Ev.goto (q := 28) dX12_common_18 (by decide) ?_
      refine rJ dX12_common_28 rfl ?_
      exact ⟨by rw [gcd_z, if_neg (by omega)], rfl⟩
    · skip
      rw [lcmp_ge q2 q1] at h3
      refine Ev.lload_n (q := 13) dX12_common_12 rfl rfl ?_
      refine Ev.lneg (q := 14) dX12_common_13 rfl ?_
      refine Ev.goto (q := 28) dX12_common_14 (by decide) ?_
      refine rJ dX12_common_28 rfl ?_
      exact ⟨by rw [gcd_z, if_pos (by omega), w64_of (by omega) (by omega)], rfl⟩
theorem p_X12_commonN {Γ : Gm} {m : Mem} : ∀ (n d : Nat) (a b : Int), (-4611686018427387904 ≤ a ∧ a ≤ 4611686018427387904) → b.natAbs < 2 ^ n → n ≤ 60 → Ci Γ (d + 2 * n + 1) MX12_common [jv a, jv b] m (fun r m' => r = (Int.gcd a b : Int) ∧ m' = m) := by
  intro n
  induction n with
  | zero =>
    intro d a b ha hb _
    have hb0 : b = 0 := by
      have : (2 : Nat) ^ 0 = 1 := rfl
      omega
    exact l_common a b ha (by omega) (fun h => absurd hb0 h)
  | succ n ih =>
    intro d a b ha hb hn
    have h60 : 2 ^ (n + 1) ≤ 2 ^ 60 := Nat.pow_le_pow_right (by decide) hn
    have hp : (2 : Nat) ^ (n + 1) = 2 * 2 ^ n := by rw [Nat.pow_succ]; omega
    have hB : -4611686018427387904 ≤ b ∧ b ≤ 4611686018427387904 := by
      have : (2 : Nat) ^ 60 = 1152921504606846976 := by decide
      omega
    refine l_common (d := d + 2 * n + 2) a b ha hB (fun h0 => ?_)
    have hr : (a.tmod b).natAbs < b.natAbs := by rw [Int.natAbs_tmod]; exact Nat.mod_lt _ (by omega)
    refine l_common (d := d + 2 * n + 1) b (a.tmod b) hB (by omega) (fun h1 => ?_)
    refine ih d (a.tmod b) (b.tmod (a.tmod b)) (by omega) ?_ (by omega)
    rw [Int.natAbs_tmod]
    have := mod_half (a := b.natAbs) (b := (a.tmod b).natAbs) (by omega) (by omega)
    omega
theorem p_X12_common {Γ : Gm} {d : Nat} {m : Mem} (a b : Int) (ha : -4611686018427387904 ≤ a ∧ a ≤ 4611686018427387904) (hb : b.natAbs < 8192) : Ci Γ (d + 27) MX12_common [jv a, jv b] m (fun r m' => r = (Int.gcd a b : Int) ∧ m' = m) := p_X12_commonN 13 d a b ha hb (by decide)
