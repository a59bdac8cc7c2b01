/-! ===== division of natural numbers ===== -/
theorem idiv_n {a b : Nat} (ha : a < 2147483648) (hb : 0 < b) (hb2 : b < 2147483648) : o_idiv a b = ((a / b : Nat) : Int) := by
  unfold o_idiv
  have e1 : (Int32.ofInt (a : Int)).toInt = (a : Int) := w32_of (by omega) (by omega)
  have e2 : (Int32.ofInt (b : Int)).toInt = (b : Int) := w32_of (by omega) (by omega)
  rw [Int32.toInt_div, e1, e2]
  have h1 : ((a : Int)).tdiv (b : Int) = ((a / b : Nat) : Int) := by rw [Int.tdiv_eq_ediv_of_nonneg (by omega)]; rfl
  have h2 : a / b ≤ a := Nat.div_le_self a b
  rw [h1]
  generalize a / b = q at h2 ⊢
  exact Int.bmod_eq_of_le (by omega) (by omega)
theorem irem_n {a b : Nat} (ha : a < 2147483648) (hb : 0 < b) (hb2 : b < 2147483648) : o_irem a b = ((a % b : Nat) : Int) := by
  unfold o_irem
  have hq := idiv_n ha hb hb2
  unfold o_idiv at hq
  have e : Int32.ofInt (a : Int) / Int32.ofInt (b : Int) = Int32.ofInt ((a / b : Nat) : Int) := by
    apply Int32.toInt_inj.1
    rw [hq]
    have h2 : a / b ≤ a := Nat.div_le_self a b
    generalize a / b = q at h2 ⊢
    exact (w32_of (by omega) (by omega)).symm
  rw [e, ← Int32.ofInt_mul, ← Int32.ofInt_sub]
  have h3 := Nat.div_add_mod a b
  have h4 := Nat.mod_lt a hb
  have h5 : (a : Int) - ((a / b : Nat) : Int) * (b : Int) = ((a % b : Nat) : Int) := by
    rw [← Int.natCast_mul, Nat.mul_comm]
    omega
  rw [h5]
  exact w32_of (by omega) (by omega)
theorem ldiv_n {a b : Nat} (ha : a < 9223372036854775808) (hb : 0 < b) (hb2 : b < 9223372036854775808) : o_ldiv a b = ((a / b : Nat) : Int) := by
  unfold o_ldiv
  have e1 : (Int64.ofInt (a : Int)).toInt = (a : Int) := w64_of (by omega) (by omega)
  have e2 : (Int64.ofInt (b : Int)).toInt = (b : Int) := w64_of (by omega) (by omega)
  rw [Int64.toInt_div, e1, e2]
  have h1 : ((a : Int)).tdiv (b : Int) = ((a / b : Nat) : Int) := by rw [Int.tdiv_eq_ediv_of_nonneg (by omega)]; rfl
  have h2 : a / b ≤ a := Nat.div_le_self a b
  rw [h1]
  generalize a / b = q at h2 ⊢
  exact Int.bmod_eq_of_le (by omega) (by omega)
theorem lrem_n {a b : Nat} (ha : a < 9223372036854775808) (hb : 0 < b) (hb2 : b < 9223372036854775808) : o_lrem a b = ((a % b : Nat) : Int) := by
  unfold o_lrem
  have hq := ldiv_n ha hb hb2
  unfold o_ldiv at hq
  have e : Int64.ofInt (a : Int) / Int64.ofInt (b : Int) = Int64.ofInt ((a / b : Nat) : Int) := by
    apply Int64.toInt_inj.1
    rw [hq]
    have h2 : a / b ≤ a := Nat.div_le_self a b
    generalize a / b = q at h2 ⊢
    exact (w64_of (by omega) (by omega)).symm
  rw [e, ← Int64.ofInt_mul, ← Int64.ofInt_sub]
  have h3 := Nat.div_add_mod a b
  have h4 := Nat.mod_lt a hb
  have h5 : (a : Int) - ((a / b : Nat) : Int) * (b : Int) = ((a % b : Nat) : Int) := by
    rw [← Int.natCast_mul, Nat.mul_comm]
    omega
  rw [h5]
  exact w64_of (by omega) (by omega)
/-! ===== deeds by number ===== -/
def argD (k r : Nat) : Nat × Nat := if k = 2 ∨ k = 3 then (r, 0) else if k = 4 then (r / 10, r % 10) else (r / 100, r % 100)
def whyD (g : Nat → Int) (k a b : Nat) : Int := if k = 0 then whyP g a b false else if k = 1 then whyP g a b true else if k = 2 then whyR g a else if k = 3 then whyO g a else if k = 4 then whyI g a b else whyW g a b
def doD (g : Nat → Int) (k a b : Nat) : Nat → Int := if k = 0 then upg g (66 + a) ((litV g a ||| 2 ^ b : Nat) : Int) else if k = 1 then upg g (66 + a) ((dif (litV g a) (2 ^ b) : Nat) : Int) else if k = 2 then ridG g a else if k = 3 then upg g (88 + a) (-1) else if k = 4 then getG g a b else walG g a b
def whyN (g : Nat → Int) (v : Int) : Int := if v < 0 ∨ 5999 < v then 1 else whyD g (v.toNat / 1000) (argD (v.toNat / 1000) (v.toNat % 1000)).1 (argD (v.toNat / 1000) (v.toNat % 1000)).2
def doN (g : Nat → Int) (v : Int) : Nat → Int := doD g (v.toNat / 1000) (argD (v.toNat / 1000) (v.toNat % 1000)).1 (argD (v.toNat / 1000) (v.toNat % 1000)).2
theorem whyP_far {g : Nat → Int} {l : Int} (hl : ¬ (0 ≤ l ∧ l < g 2)) (f : Int) (o : Bool) : whyP g l f o = 1 := by unfold whyP isL; rw [if_pos (Or.inl (by simp only [decide_eq_false_iff_not]; exact hl))]
theorem whyR_far {g : Nat → Int} {l : Int} (hl : ¬ (0 ≤ l ∧ l < g 2)) : whyR g l = 1 := by unfold whyR isL; rw [if_pos (by simp only [decide_eq_false_iff_not]; exact hl)]
theorem whyO_far {g : Nat → Int} {p : Int} (hp : ¬ (0 ≤ p ∧ p < g 3)) : whyO g p = 1 := by unfold whyO isP; rw [if_pos (by simp only [decide_eq_false_iff_not]; exact hp)]
theorem whyI_far {g : Nat → Int} {p : Int} (hp : ¬ (0 ≤ p ∧ p < g 3)) (l : Int) : whyI g p l = 1 := by unfold whyI isP; rw [if_pos (Or.inl (by simp only [decide_eq_false_iff_not]; exact hp))]
theorem whyW_far {g : Nat → Int} {p : Int} (hp : ¬ (0 ≤ p ∧ p < g 3)) (f : Int) : whyW g p f = 1 := by unfold whyW isP; rw [if_pos (Or.inl (by simp only [decide_eq_false_iff_not]; exact hp))]
theorem whyN_k {g : Nat → Int} {n k : Nat} (h1 : n / 1000 = k) (h2 : n < 6000) : whyN g n = whyD g k (argD k (n % 1000)).1 (argD k (n % 1000)).2 := by
  unfold whyN
  rw [if_neg (by omega), Int.toNat_natCast, h1]
set_option maxRecDepth 4000 in
theorem p_X12_whyNot {Γ : Gm} {d : Nat} {m : Mem} (v : Int) (hI : HI (m 212)) : Ci Γ (d + 3) MX12_whyNot [rv 211, jv v] m (fun r m' => r = whyN (m 212) v ∧ m' = m) := by
  refine Ci.of moX12_whyNot rfl rfl (fun hA hM => ?_)
  show Em Γ (d + 3) MX12_whyNot _ 0 [rv 211, jv v, uv] [] m
  refine Ev.lload_n (q := 1) dX12_whyNot_0 rfl rfl ?_
  refine Ev.lconst (q := 2) dX12_whyNot_1 kj_0 rfl ?_
  refine Ev.ldc2 (q := 5) dX12_whyNot_2 klX12_290 klvX12_290 rfl ?_
  refine cS3i (q := 8) (d' := d + 2) dX12_whyNot_5 mlX12_118 moX12_within msX12_within rfl rfl (Nat.le_refl _) rfl rfl rfl (p_X12_within _ _ _) (fun r1 m1 e1 => ?_)
  obtain ⟨rfl, e1⟩ := e1
  obtain rfl := e1.symm
  refine Ev.if_eq (tgt := 27) (q := 11) dX12_whyNot_8 (by decide) rfl (fun h2 => ?_) (fun h2 => ?_)
  · skip
    have n0 : ¬ (0 ≤ v ∧ v ≤ 299) := by split at h2 <;> omega
    refine Ev.lload_n (q := 28) dX12_whyNot_27 rfl rfl ?_
    refine Ev.ldc2 (q := 31) dX12_whyNot_28 klX12_294 klvX12_294 rfl ?_
    refine Ev.ldc2 (q := 34) dX12_whyNot_31 klX12_296 klvX12_296 rfl ?_
    refine cS3i (q := 37) (d' := d + 2) dX12_whyNot_34 mlX12_118 moX12_within msX12_within rfl rfl (Nat.le_refl _) rfl rfl rfl (p_X12_within _ _ _) (fun r3 m3 e3 => ?_)
    obtain ⟨rfl, e3⟩ := e3
    obtain rfl := e3.symm
    refine Ev.if_eq (tgt := 60) (q := 40) dX12_whyNot_37 (by decide) rfl (fun h4 => ?_) (fun h4 => ?_)
    · skip
      have n1000 : ¬ (1000 ≤ v ∧ v ≤ 1299) := by split at h4 <;> omega
      refine Ev.lload_n (q := 61) dX12_whyNot_60 rfl rfl ?_
      refine Ev.ldc2 (q := 64) dX12_whyNot_61 klX12_298 klvX12_298 rfl ?_
      refine Ev.ldc2 (q := 67) dX12_whyNot_64 klX12_300 klvX12_300 rfl ?_
      refine cS3i (q := 70) (d' := d + 2) dX12_whyNot_67 mlX12_118 moX12_within msX12_within rfl rfl (Nat.le_refl _) rfl rfl rfl (p_X12_within _ _ _) (fun r5 m5 e5 => ?_)
      obtain ⟨rfl, e5⟩ := e5
      obtain rfl := e5.symm
      refine Ev.if_eq (tgt := 83) (q := 73) dX12_whyNot_70 (by decide) rfl (fun h6 => ?_) (fun h6 => ?_)
      · skip
        have n2000 : ¬ (2000 ≤ v ∧ v ≤ 2099) := by split at h6 <;> omega
        refine Ev.lload_n (q := 84) dX12_whyNot_83 rfl rfl ?_
        refine Ev.ldc2 (q := 87) dX12_whyNot_84 klX12_302 klvX12_302 rfl ?_
        refine Ev.ldc2 (q := 90) dX12_whyNot_87 klX12_304 klvX12_304 rfl ?_
        refine cS3i (q := 93) (d' := d + 2) dX12_whyNot_90 mlX12_118 moX12_within msX12_within rfl rfl (Nat.le_refl _) rfl rfl rfl (p_X12_within _ _ _) (fun r7 m7 e7 => ?_)
        obtain ⟨rfl, e7⟩ := e7
        obtain rfl := e7.symm
        refine Ev.if_eq (tgt := 106) (q := 96) dX12_whyNot_93 (by decide) rfl (fun h8 => ?_) (fun h8 => ?_)
        · skip
          have n3000 : ¬ (3000 ≤ v ∧ v ≤ 3099) := by split at h8 <;> omega
          refine Ev.lload_n (q := 107) dX12_whyNot_106 rfl rfl ?_
          refine Ev.ldc2 (q := 110) dX12_whyNot_107 klX12_306 klvX12_306 rfl ?_
          refine Ev.ldc2 (q := 113) dX12_whyNot_110 klX12_308 klvX12_308 rfl ?_
          refine cS3i (q := 116) (d' := d + 2) dX12_whyNot_113 mlX12_118 moX12_within msX12_within rfl rfl (Nat.le_refl _) rfl rfl rfl (p_X12_within _ _ _) (fun r9 m9 e9 => ?_)
          obtain ⟨rfl, e9⟩ := e9
          obtain rfl := e9.symm
          refine Ev.if_eq (tgt := 138) (q := 119) dX12_whyNot_116 (by decide) rfl (fun h10 => ?_) (fun h10 => ?_)
          · skip
            have n4000 : ¬ (4000 ≤ v ∧ v ≤ 4099) := by split at h10 <;> omega
            refine Ev.lload_n (q := 139) dX12_whyNot_138 rfl rfl ?_
            refine Ev.ldc2 (q := 142) dX12_whyNot_139 klX12_310 klvX12_310 rfl ?_
            refine Ev.ldc2 (q := 145) dX12_whyNot_142 klX12_312 klvX12_312 rfl ?_
            refine cS3i (q := 148) (d' := d + 2) dX12_whyNot_145 mlX12_118 moX12_within msX12_within rfl rfl (Nat.le_refl _) rfl rfl rfl (p_X12_within _ _ _) (fun r11 m11 e11 => ?_)
            obtain ⟨rfl, e11⟩ := e11
            obtain rfl := e11.symm
            refine Ev.if_eq (tgt := 172) (q := 151) dX12_whyNot_148 (by decide) rfl (fun h12 => ?_) (fun h12 => ?_)
            · skip
              have n5000 : ¬ (5000 ≤ v ∧ v ≤ 5799) := by split at h12 <;> omega
              refine Ev.iconst (q := 173) dX12_whyNot_172 ki_1 rfl ?_
              refine rI dX12_whyNot_173 rfl ?_
              refine ⟨?_, rfl⟩
              by_cases hv : v < 0 ∨ 5999 < v
              · unfold whyN; rw [if_pos hv]
              · obtain ⟨n, rfl⟩ : ∃ n : Nat, v = n := ⟨v.toNat, by omega⟩
                have hL := hI.2.1
                have hP := hI.2.2.1
                rcases (show n / 1000 = 0 ∨ n / 1000 = 1 ∨ n / 1000 = 2 ∨ n / 1000 = 3 ∨ n / 1000 = 4 ∨ n / 1000 = 5 by omega) with q | q | q | q | q | q
                · rw [whyN_k q (by omega)]; exact (whyP_far (by show ¬ ((0 : Int) ≤ ((n % 1000 / 100 : Nat) : Int) ∧ ((n % 1000 / 100 : Nat) : Int) < m 212 2); omega) _ _).symm
                · rw [whyN_k q (by omega)]; exact (whyP_far (by show ¬ ((0 : Int) ≤ ((n % 1000 / 100 : Nat) : Int) ∧ ((n % 1000 / 100 : Nat) : Int) < m 212 2); omega) _ _).symm
                · rw [whyN_k q (by omega)]; exact (whyR_far (by show ¬ ((0 : Int) ≤ ((n % 1000 : Nat) : Int) ∧ ((n % 1000 : Nat) : Int) < m 212 2); omega)).symm
                · rw [whyN_k q (by omega)]; exact (whyO_far (by show ¬ ((0 : Int) ≤ ((n % 1000 : Nat) : Int) ∧ ((n % 1000 : Nat) : Int) < m 212 3); omega)).symm
                · rw [whyN_k q (by omega)]; exact (whyI_far (by show ¬ ((0 : Int) ≤ ((n % 1000 / 10 : Nat) : Int) ∧ ((n % 1000 / 10 : Nat) : Int) < m 212 3); omega) _).symm
                · rw [whyN_k q (by omega)]; exact (whyW_far (by show ¬ ((0 : Int) ≤ ((n % 1000 / 100 : Nat) : Int) ∧ ((n % 1000 / 100 : Nat) : Int) < m 212 3); omega) _).symm
            · skip
              obtain ⟨n, rfl⟩ : ∃ n : Nat, v = n := ⟨v.toNat, by split at h12 <;> omega⟩
              have hn : 5000 ≤ n ∧ n ≤ 5799 := by split at h12 <;> omega
              have es : w64 ((n : Int) - 5000) = ((n - 5000 : Nat) : Int) := by rw [w64_of (by omega) (by omega)]; omega
              refine Ev.aload_n (q := 152) dX12_whyNot_151 rfl rfl ?_
              refine Ev.lload_n (q := 153) dX12_whyNot_152 rfl rfl ?_
              refine Ev.ldc2 (q := 156) dX12_whyNot_153 klX12_310 klvX12_310 rfl ?_
              refine Ev.lsub (q := 157) dX12_whyNot_156 rfl ?_
              refine Ev.ldc2 (q := 160) dX12_whyNot_157 klX12_292 klvX12_292 rfl ?_
              refine Ev.ldiv (q := 161) dX12_whyNot_160 (by decide) rfl ?_
              refine Ev.lload_n (q := 162) dX12_whyNot_161 rfl rfl ?_
              refine Ev.ldc2 (q := 165) dX12_whyNot_162 klX12_292 klvX12_292 rfl ?_
              refine Ev.lrem (q := 166) dX12_whyNot_165 (by decide) rfl ?_
              refine cV2i (q := 169) (d' := d + 2) dX12_whyNot_166 mlX12_282 moX12_whyWalk mvX12_whyWalk k211 rfl rfl rfl (Nat.le_refl _) rfl rfl rfl (p_X12_whyWalk _ _ hI) (fun r13 m13 e13 => ?_)
              obtain ⟨rfl, e13⟩ := e13
              obtain rfl := e13.symm
              refine Ev.goto (q := 173) dX12_whyNot_169 (by decide) ?_
              refine rI dX12_whyNot_173 rfl ?_
              refine ⟨?_, rfl⟩
              rw [whyN_k (k := 5) (by omega) (by omega)]
              have q1 := ldiv_n (a := (n - 5000)) (b := 100) (by omega) (by decide) (by decide)
              have q2 := lrem_n (a := n) (b := 100) (by omega) (by decide) (by decide)
              have q3 : (100 : Int) = ((100 : Nat) : Int) := rfl
              rw [es, q3, q1, q2, show n % 1000 = n - 5000 by omega, show n % 100 = (n - 5000) % 100 by omega]
              rfl
          · skip
            obtain ⟨n, rfl⟩ : ∃ n : Nat, v = n := ⟨v.toNat, by split at h10 <;> omega⟩
            have hn : 4000 ≤ n ∧ n ≤ 4099 := by split at h10 <;> omega
            have es : w64 ((n : Int) - 4000) = ((n - 4000 : Nat) : Int) := by rw [w64_of (by omega) (by omega)]; omega
            refine Ev.aload_n (q := 120) dX12_whyNot_119 rfl rfl ?_
            refine Ev.lload_n (q := 121) dX12_whyNot_120 rfl rfl ?_
            refine Ev.ldc2 (q := 124) dX12_whyNot_121 klX12_306 klvX12_306 rfl ?_
            refine Ev.lsub (q := 125) dX12_whyNot_124 rfl ?_
            refine Ev.ldc2 (q := 128) dX12_whyNot_125 klX12_288 klvX12_288 rfl ?_
            refine Ev.ldiv (q := 129) dX12_whyNot_128 (by decide) rfl ?_
            refine Ev.lload_n (q := 130) dX12_whyNot_129 rfl rfl ?_
            refine Ev.ldc2 (q := 133) dX12_whyNot_130 klX12_288 klvX12_288 rfl ?_
            refine Ev.lrem (q := 134) dX12_whyNot_133 (by decide) rfl ?_
            refine cV2i (q := 137) (d' := d + 2) dX12_whyNot_134 mlX12_274 moX12_whyIn mvX12_whyIn k211 rfl rfl rfl (Nat.le_refl _) rfl rfl rfl (p_X12_whyIn _ _ hI) (fun r14 m14 e14 => ?_)
            obtain ⟨rfl, e14⟩ := e14
            obtain rfl := e14.symm
            refine rI dX12_whyNot_137 rfl ?_
            refine ⟨?_, rfl⟩
            rw [whyN_k (k := 4) (by omega) (by omega)]
            have q1 := ldiv_n (a := (n - 4000)) (b := 10) (by omega) (by decide) (by decide)
            have q2 := lrem_n (a := n) (b := 10) (by omega) (by decide) (by decide)
            have q3 : (10 : Int) = ((10 : Nat) : Int) := rfl
            rw [es, q3, q1, q2, show n % 1000 = n - 4000 by omega, show n % 10 = (n - 4000) % 10 by omega]
            rfl
        · skip
          obtain ⟨n, rfl⟩ : ∃ n : Nat, v = n := ⟨v.toNat, by split at h8 <;> omega⟩
          have hn : 3000 ≤ n ∧ n ≤ 3099 := by split at h8 <;> omega
          have es : w64 ((n : Int) - 3000) = ((n - 3000 : Nat) : Int) := by rw [w64_of (by omega) (by omega)]; omega
          refine Ev.aload_n (q := 97) dX12_whyNot_96 rfl rfl ?_
          refine Ev.lload_n (q := 98) dX12_whyNot_97 rfl rfl ?_
          refine Ev.ldc2 (q := 101) dX12_whyNot_98 klX12_302 klvX12_302 rfl ?_
          refine Ev.lsub (q := 102) dX12_whyNot_101 rfl ?_
          refine cV1i (q := 105) (d' := d + 2) dX12_whyNot_102 mlX12_271 moX12_whyOut mvX12_whyOut k211 rfl rfl rfl (Nat.le_refl _) rfl rfl rfl (p_X12_whyOut _ hI) (fun r15 m15 e15 => ?_)
          obtain ⟨rfl, e15⟩ := e15
          obtain rfl := e15.symm
          refine rI dX12_whyNot_105 rfl ?_
          refine ⟨?_, rfl⟩
          rw [whyN_k (k := 3) (by omega) (by omega)]
          rw [es, show n % 1000 = n - 3000 by omega]
          rfl
      · skip
        obtain ⟨n, rfl⟩ : ∃ n : Nat, v = n := ⟨v.toNat, by split at h6 <;> omega⟩
        have hn : 2000 ≤ n ∧ n ≤ 2099 := by split at h6 <;> omega
        have es : w64 ((n : Int) - 2000) = ((n - 2000 : Nat) : Int) := by rw [w64_of (by omega) (by omega)]; omega
        refine Ev.aload_n (q := 74) dX12_whyNot_73 rfl rfl ?_
        refine Ev.lload_n (q := 75) dX12_whyNot_74 rfl rfl ?_
        refine Ev.ldc2 (q := 78) dX12_whyNot_75 klX12_298 klvX12_298 rfl ?_
        refine Ev.lsub (q := 79) dX12_whyNot_78 rfl ?_
        refine cV1i (q := 82) (d' := d + 2) dX12_whyNot_79 mlX12_264 moX12_whyRide mvX12_whyRide k211 rfl rfl rfl (Nat.le_refl _) rfl rfl rfl (p_X12_whyRide _ hI) (fun r16 m16 e16 => ?_)
        obtain ⟨rfl, e16⟩ := e16
        obtain rfl := e16.symm
        refine rI dX12_whyNot_82 rfl ?_
        refine ⟨?_, rfl⟩
        rw [whyN_k (k := 2) (by omega) (by omega)]
        rw [es, show n % 1000 = n - 2000 by omega]
        rfl
    · skip
      obtain ⟨n, rfl⟩ : ∃ n : Nat, v = n := ⟨v.toNat, by split at h4 <;> omega⟩
      have hn : 1000 ≤ n ∧ n ≤ 1299 := by split at h4 <;> omega
      have es : w64 ((n : Int) - 1000) = ((n - 1000 : Nat) : Int) := by rw [w64_of (by omega) (by omega)]; omega
      refine Ev.aload_n (q := 41) dX12_whyNot_40 rfl rfl ?_
      refine Ev.lload_n (q := 42) dX12_whyNot_41 rfl rfl ?_
      refine Ev.ldc2 (q := 45) dX12_whyNot_42 klX12_294 klvX12_294 rfl ?_
      refine Ev.lsub (q := 46) dX12_whyNot_45 rfl ?_
      refine Ev.ldc2 (q := 49) dX12_whyNot_46 klX12_292 klvX12_292 rfl ?_
      refine Ev.ldiv (q := 50) dX12_whyNot_49 (by decide) rfl ?_
      refine Ev.lload_n (q := 51) dX12_whyNot_50 rfl rfl ?_
      refine Ev.ldc2 (q := 54) dX12_whyNot_51 klX12_292 klvX12_292 rfl ?_
      refine Ev.lrem (q := 55) dX12_whyNot_54 (by decide) rfl ?_
      refine Ev.iconst (q := 56) dX12_whyNot_55 ki_1 rfl ?_
      refine cV3i (q := 59) (d' := d + 2) dX12_whyNot_56 mlX12_254 moX12_whyPress mvX12_whyPress k211 rfl rfl rfl (Nat.le_refl _) rfl rfl rfl (p_X12_whyPress_true _ _ hI) (fun r17 m17 e17 => ?_)
      obtain ⟨rfl, e17⟩ := e17
      obtain rfl := e17.symm
      refine rI dX12_whyNot_59 rfl ?_
      refine ⟨?_, rfl⟩
      rw [whyN_k (k := 1) (by omega) (by omega)]
      have q1 := ldiv_n (a := (n - 1000)) (b := 100) (by omega) (by decide) (by decide)
      have q2 := lrem_n (a := n) (b := 100) (by omega) (by decide) (by decide)
      have q3 : (100 : Int) = ((100 : Nat) : Int) := rfl
      rw [es, q3, q1, q2, show n % 1000 = n - 1000 by omega, show n % 100 = (n - 1000) % 100 by omega]
      rfl
  · skip
    obtain ⟨n, rfl⟩ : ∃ n : Nat, v = n := ⟨v.toNat, by split at h2 <;> omega⟩
    have hn : 0 ≤ n ∧ n ≤ 299 := by split at h2 <;> omega
    refine Ev.aload_n (q := 12) dX12_whyNot_11 rfl rfl ?_
    refine Ev.lload_n (q := 13) dX12_whyNot_12 rfl rfl ?_
    refine Ev.ldc2 (q := 16) dX12_whyNot_13 klX12_292 klvX12_292 rfl ?_
    refine Ev.ldiv (q := 17) dX12_whyNot_16 (by decide) rfl ?_
    refine Ev.lload_n (q := 18) dX12_whyNot_17 rfl rfl ?_
    refine Ev.ldc2 (q := 21) dX12_whyNot_18 klX12_292 klvX12_292 rfl ?_
    refine Ev.lrem (q := 22) dX12_whyNot_21 (by decide) rfl ?_
    refine Ev.iconst (q := 23) dX12_whyNot_22 ki_0 rfl ?_
    refine cV3i (q := 26) (d' := d + 2) dX12_whyNot_23 mlX12_254 moX12_whyPress mvX12_whyPress k211 rfl rfl rfl (Nat.le_refl _) rfl rfl rfl (p_X12_whyPress_false _ _ hI) (fun r18 m18 e18 => ?_)
    obtain ⟨rfl, e18⟩ := e18
    obtain rfl := e18.symm
    refine rI dX12_whyNot_26 rfl ?_
    refine ⟨?_, rfl⟩
    rw [whyN_k (k := 0) (by omega) (by omega)]
    have q1 := ldiv_n (a := n) (b := 100) (by omega) (by decide) (by decide)
    have q2 := lrem_n (a := n) (b := 100) (by omega) (by decide) (by decide)
    have q3 : (100 : Int) = ((100 : Nat) : Int) := rfl
    rw [q3, q1, q2, show n % 1000 = n by omega]
    rfl
