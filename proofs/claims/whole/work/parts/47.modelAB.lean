/-! ===== the reference: what was seen ===== -/
theorem badS_at {g num : Nat → Int} {n : Nat} (h : badS g num n = false) : ∀ i, i < n → (i % 2 = 0 → 0 ≤ num i ∧ num i < g 1) ∧ (i % 2 = 1 → 0 ≤ num i) := by
  induction n with
  | zero => intro i hi; omega
  | succ n ih =>
    intro i hi
    unfold badS at h
    rw [Bool.or_eq_false_iff] at h
    by_cases e : i = n
    · subst e
      have h2 := h.2
      by_cases hp : i % 2 = 0
      · rw [if_pos hp] at h2
        refine ⟨fun _ => ?_, fun q => by omega⟩
        unfold isF at h2
        simp at h2
        exact h2
      · rw [if_neg hp] at h2
        refine ⟨fun q => absurd q hp, fun _ => ?_⟩
        have := of_decide_eq_false h2
        omega
    · exact ih h.1 i (by omega)
theorem nos_0 {g num : Nat → Int} {sort : Int} {many : Nat} {t l : Int} (h : nosV g num sort many t l = 0) : (0 ≤ t ∧ t ≤ 3) ∧ (0 ≤ l ∧ l < g 2) ∧ ¬ sort = -1 ∧ ∃ N : Nat, many = 2 * N ∧ 1 ≤ N ∧ N ≤ 8 ∧ badS g num many = false := by
  unfold nosV isL at h
  simp only [decide_eq_false_iff_not] at h
  by_cases h1 : ¬ (0 ≤ t ∧ t ≤ 3) ∨ ¬ (0 ≤ l ∧ l < g 2)
  · rw [if_pos h1] at h; cases h
  · rw [if_neg h1] at h
    by_cases h2 : sort = -1
    · rw [if_pos h2] at h; cases h
    · rw [if_neg h2] at h
      by_cases h3 : many % 2 = 1 ∨ ¬ (2 ≤ many ∧ many ≤ 16)
      · rw [if_pos h3] at h; cases h
      · rw [if_neg h3] at h
        by_cases h4 : badS g num many = true
        · rw [if_pos h4] at h; cases h
        · refine ⟨by omega, by omega, h2, many / 2, by omega, by omega, by omega, ?_⟩
          cases hb : badS g num many
          · rfl
          · exact absurd hb h4
def q_seen (g num : Nat → Int) (sort : Int) (many : Nat) (t l : Int) : Int := if nosV g num sort many t l = 0 then (cntF g num l.toNat (many / 2) (2 ^ (g 1).toNat) : Int) else nosV g num sort many t l
def q_sure (g num : Nat → Int) (sort : Int) (many : Nat) (t l : Int) : Int := if nosV g num sort many t l = 0 then (if cntF g num l.toNat (many / 2) (2 ^ (g 1).toNat) = 0 then 0 else (allF g num l.toNat (many / 2) (2 ^ (g 1).toNat) : Int)) else nosV g num sort many t l
def lkN (cnt : Nat) (lit : Nat → Nat) (own : Nat) : Nat → Nat → Int → Int → Int
  | 0, _, b, _ => b
  | n + 1, f, b, ms => if f = own ∨ (if lit f < cnt - lit f then (lit f : Int) else ((cnt - lit f : Nat) : Int)) ≤ ms then lkN cnt lit own n (f + 1) b ms else lkN cnt lit own n (f + 1) f (if lit f < cnt - lit f then (lit f : Int) else ((cnt - lit f : Nat) : Int))
def q_look (g num : Nat → Int) (sort : Int) (many : Nat) (t l : Int) : Int := if nosV g num sort many t l = 0 then
  (if cntF g num l.toNat (many / 2) (2 ^ (g 1).toNat) = 0 then -1 else lkN (cntF g num l.toNat (many / 2) (2 ^ (g 1).toNat)) (fun f => litF g num l.toNat (many / 2) f (2 ^ (g 1).toNat)) (g (60 + l.toNat)).toNat (g 1).toNat 0 (-1) (-1)) else nosV g num sort many t l
def odN (g num : Nat → Int) (l : Nat) : Nat → Nat → Int
  | 0, _ => -1
  | n + 1, k => if cntF g num l k (2 ^ (g 1).toNat) = 0 then (k : Int) - 1 else odN g num l n (k + 1)
def q_odd (g num : Nat → Int) (sort : Int) (many : Nat) (t l : Int) : Int := if nosV g num sort many t l = 0 then odN g num l.toNat (many / 2) 1 else nosV g num sort many t l
theorem litF_cnt (g nm : Nat → Int) (l n f : Nat) : ∀ s, litF g nm l n f s ≤ cntF g nm l n s := by
  intro s
  induction s with
  | zero => exact Nat.le_refl 0
  | succ s ih =>
    unfold litF cntF
    by_cases h : okS g nm l n s = true
    · rw [if_pos h]
      split <;> omega
    · rw [if_neg h, if_neg (fun z => h z.1)]
      omega
set_option maxRecDepth 4000 in
theorem p_X12_seen {Γ : Gm} {d : Nat} {m : Mem} (t l : Int) (hI : HI (m 212)) (h221 : ∀ i, i < 4 → 0 ≤ m 221 i ∧ m 221 i ≤ 40) : Ci Γ (d + 6) MX12_seen [rv 211, iv t, iv l] m (fun r m' => r = q_seen (m 212) (fun i => m 222 (40 * t.toNat + i)) (m 220 t.toNat) (m 221 t.toNat).toNat t l ∧ Fr sQ m m') := by
  refine Ci.of moX12_seen rfl rfl (fun hA hM => ?_)
  show Em Γ (d + 6) MX12_seen _ 0 [rv 211, iv t, iv l, uv] [] m
  refine Ev.aload_n (q := 1) dX12_seen_0 rfl rfl ?_
  refine Ev.iconst (q := 2) dX12_seen_1 ki_0 rfl ?_
  refine pI (q := 5) dX12_seen_2 gfX12_1 k211 rfl rfl ?_
  obtain ⟨M0, hM0⟩ : ∃ M0, M0 = up m 211 0 0 := ⟨_, rfl⟩
  rw [← hM0]
  have hF0 : Fr sQ m M0 := by rw [hM0]; exact (Fr.rf _ _).up rfl
  have g0 : M0 212 = m 212 := hF0.row 212 (fun _ => rfl)
  rw [← g0] at hI ⊢
  have hF12 := hI.1
  have hL3 := hI.2.1
  have hP8 := hI.2.2.1
  have g20 : M0 220 = m 220 := hF0.row 220 (fun _ => rfl)
  have g21 : M0 221 = m 221 := hF0.row 221 (fun _ => rfl)
  have g22 : M0 222 = m 222 := hF0.row 222 (fun _ => rfl)
  rw [← g20, ← g21, ← g22]
  rw [← g21] at h221
  refine Ev.aload_n (q := 6) dX12_seen_5 rfl rfl ?_
  refine Ev.iload_n (q := 7) dX12_seen_6 rfl rfl ?_
  refine Ev.iload_n (q := 8) dX12_seen_7 rfl rfl ?_
  refine cV2i (q := 11) (d' := d + 5) dX12_seen_8 mlX12_428 moX12_noSeen mvX12_noSeen k211 rfl rfl rfl (Nat.le_refl _) rfl rfl rfl (p_X12_noSeen t l hI h221) (fun r1 m1 e1 => ?_)
  obtain ⟨rfl, e1⟩ := e1
  obtain rfl := e1.symm
  refine istore_n_3 (q := 12) dX12_seen_11 rfl rfl rfl ?_
  refine Ev.iload_n (q := 13) dX12_seen_12 rfl rfl ?_
  refine Ev.if_eq (tgt := 18) (q := 16) dX12_seen_13 (by decide) rfl (fun h2 => ?_) (fun h2 => ?_)
  · skip
    obtain ⟨hT, hLL, hs, N, hN, hN1, hN8, hbd⟩ := nos_0 h2
    obtain ⟨tn, rfl⟩ : ∃ tn : Nat, t = tn := ⟨t.toNat, by omega⟩
    obtain ⟨ln, rfl⟩ : ∃ ln : Nat, l = ln := ⟨l.toNat, by omega⟩
    simp only [Int.toNat_natCast] at hN hbd
    have h2N : M0 221 tn = ((2 * N : Nat) : Int) := by have := h221 tn (by omega); omega
    have hz9 := h2
    simp only [Int.toNat_natCast] at hz9
    have hnn : ∀ i, i < N → 0 ≤ M0 222 (40 * tn + 2 * i) := fun i hi => ((badS_at hbd (2 * i) (by omega)).1 (by omega)).1
    have hLow := (hI.lift (l := ln) (by omega)).1
    refine Ev.aload_n (q := 19) dX12_seen_18 rfl rfl ?_
    refine Ev.iload_n (q := 20) dX12_seen_19 rfl rfl ?_
    refine Ev.iload_n (q := 21) dX12_seen_20 rfl rfl ?_
    refine Ev.aload_n (q := 22) dX12_seen_21 rfl rfl ?_
    refine gR (q := 25) dX12_seen_22 gfX12_45 k211 r211_33 rfl rfl ?_
    refine Ev.iload_n (q := 26) dX12_seen_25 rfl rfl ?_
    refine aI (q := 27) (k := tn) dX12_seen_26 k221 (by first | rfl | omega | (simp (disch := omega) only [w32_of]; omega)) (by omega) rfl ?_
    rw [h2N]
    refine cV3v (q := 30) (d' := d + 5) dX12_seen_27 mlX12_431 moX12_laysFits mvX12_laysFits k211 rfl rfl rfl (Nat.le_refl _) rfl rfl rfl (p_X12_laysFits tn ln N (by omega) hN8 hI (by omega) hnn) (fun r3 m3 e3 => ?_)
    obtain ⟨hLI, hfr⟩ := e3
    have hF1 := hF0.tr (hfr.mono (fun a k q => sQ_Lf q))
    have g1 : m3 212 = M0 212 := hfr.row 212 (fun _ => rfl)
    generalize m3 = M1 at *
    refine Ev.aload_n (q := 31) dX12_seen_30 rfl rfl ?_
    refine gI (q := 34) dX12_seen_31 gfX12_418 k211 rfl rfl ?_
    refine rI dX12_seen_34 rfl ?_
    refine ⟨?_, hF1⟩
    unfold q_seen
    simp only [Int.toNat_natCast]
    rw [if_pos hz9, hN, show 2 * N / 2 = N by omega]
    exact hLI.1
  · skip
    refine Ev.iload_n (q := 17) dX12_seen_16 rfl rfl ?_
    refine rI dX12_seen_17 rfl ?_
    refine ⟨?_, hF0⟩
    unfold q_seen
    rw [if_neg (by assumption)]
set_option maxRecDepth 4000 in
theorem p_X12_sure {Γ : Gm} {d : Nat} {m : Mem} (t l : Int) (hI : HI (m 212)) (h221 : ∀ i, i < 4 → 0 ≤ m 221 i ∧ m 221 i ≤ 40) : Ci Γ (d + 6) MX12_sure [rv 211, iv t, iv l] m (fun r m' => r = q_sure (m 212) (fun i => m 222 (40 * t.toNat + i)) (m 220 t.toNat) (m 221 t.toNat).toNat t l ∧ Fr sQ m m') := by
  refine Ci.of moX12_sure rfl rfl (fun hA hM => ?_)
  show Em Γ (d + 6) MX12_sure _ 0 [rv 211, iv t, iv l, uv] [] m
  refine Ev.aload_n (q := 1) dX12_sure_0 rfl rfl ?_
  refine Ev.iconst (q := 2) dX12_sure_1 ki_0 rfl ?_
  refine pI (q := 5) dX12_sure_2 gfX12_1 k211 rfl rfl ?_
  obtain ⟨M0, hM0⟩ : ∃ M0, M0 = up m 211 0 0 := ⟨_, rfl⟩
  rw [← hM0]
  have hF0 : Fr sQ m M0 := by rw [hM0]; exact (Fr.rf _ _).up rfl
  have g0 : M0 212 = m 212 := hF0.row 212 (fun _ => rfl)
  rw [← g0] at hI ⊢
  have hF12 := hI.1
  have hL3 := hI.2.1
  have hP8 := hI.2.2.1
  have g20 : M0 220 = m 220 := hF0.row 220 (fun _ => rfl)
  have g21 : M0 221 = m 221 := hF0.row 221 (fun _ => rfl)
  have g22 : M0 222 = m 222 := hF0.row 222 (fun _ => rfl)
  rw [← g20, ← g21, ← g22]
  rw [← g21] at h221
  refine Ev.aload_n (q := 6) dX12_sure_5 rfl rfl ?_
  refine Ev.iload_n (q := 7) dX12_sure_6 rfl rfl ?_
  refine Ev.iload_n (q := 8) dX12_sure_7 rfl rfl ?_
  refine cV2i (q := 11) (d' := d + 5) dX12_sure_8 mlX12_428 moX12_noSeen mvX12_noSeen k211 rfl rfl rfl (Nat.le_refl _) rfl rfl rfl (p_X12_noSeen t l hI h221) (fun r1 m1 e1 => ?_)
  obtain ⟨rfl, e1⟩ := e1
  obtain rfl := e1.symm
  refine istore_n_3 (q := 12) dX12_sure_11 rfl rfl rfl ?_
  refine Ev.iload_n (q := 13) dX12_sure_12 rfl rfl ?_
  refine Ev.if_eq (tgt := 18) (q := 16) dX12_sure_13 (by decide) rfl (fun h2 => ?_) (fun h2 => ?_)
  · skip
    obtain ⟨hT, hLL, hs, N, hN, hN1, hN8, hbd⟩ := nos_0 h2
    obtain ⟨tn, rfl⟩ : ∃ tn : Nat, t = tn := ⟨t.toNat, by omega⟩
    obtain ⟨ln, rfl⟩ : ∃ ln : Nat, l = ln := ⟨l.toNat, by omega⟩
    simp only [Int.toNat_natCast] at hN hbd
    have h2N : M0 221 tn = ((2 * N : Nat) : Int) := by have := h221 tn (by omega); omega
    have hz9 := h2
    simp only [Int.toNat_natCast] at hz9
    have hnn : ∀ i, i < N → 0 ≤ M0 222 (40 * tn + 2 * i) := fun i hi => ((badS_at hbd (2 * i) (by omega)).1 (by omega)).1
    have hLow := (hI.lift (l := ln) (by omega)).1
    refine Ev.aload_n (q := 19) dX12_sure_18 rfl rfl ?_
    refine Ev.iload_n (q := 20) dX12_sure_19 rfl rfl ?_
    refine Ev.iload_n (q := 21) dX12_sure_20 rfl rfl ?_
    refine Ev.aload_n (q := 22) dX12_sure_21 rfl rfl ?_
    refine gR (q := 25) dX12_sure_22 gfX12_45 k211 r211_33 rfl rfl ?_
    refine Ev.iload_n (q := 26) dX12_sure_25 rfl rfl ?_
    refine aI (q := 27) (k := tn) dX12_sure_26 k221 (by first | rfl | omega | (simp (disch := omega) only [w32_of]; omega)) (by omega) rfl ?_
    rw [h2N]
    refine cV3v (q := 30) (d' := d + 5) dX12_sure_27 mlX12_431 moX12_laysFits mvX12_laysFits k211 rfl rfl rfl (Nat.le_refl _) rfl rfl rfl (p_X12_laysFits tn ln N (by omega) hN8 hI (by omega) hnn) (fun r3 m3 e3 => ?_)
    obtain ⟨hLI, hfr⟩ := e3
    have hF1 := hF0.tr (hfr.mono (fun a k q => sQ_Lf q))
    have g1 : m3 212 = M0 212 := hfr.row 212 (fun _ => rfl)
    generalize m3 = M1 at *
    refine Ev.aload_n (q := 31) dX12_sure_30 rfl rfl ?_
    refine gI (q := 34) dX12_sure_31 gfX12_418 k211 rfl rfl ?_
    refine Ev.if_ne (tgt := 41) (q := 37) dX12_sure_34 (by decide) rfl (fun h4 => ?_) (fun h4 => ?_)
    · skip
      rw [hLI.1] at h4
      refine Ev.aload_n (q := 42) dX12_sure_41 rfl rfl ?_
      refine gI (q := 45) dX12_sure_42 gfX12_421 k211 rfl rfl ?_
      refine rI dX12_sure_45 rfl ?_
      refine ⟨?_, hF1⟩
      unfold q_sure
      simp only [Int.toNat_natCast]
      rw [if_pos hz9, hN, show 2 * N / 2 = N by omega]
      rw [if_neg (by omega)]
      exact hLI.2.1
    · skip
      rw [hLI.1] at h4
      refine Ev.iconst (q := 38) dX12_sure_37 ki_0 rfl ?_
      refine Ev.goto (q := 45) dX12_sure_38 (by decide) ?_
      refine rI dX12_sure_45 rfl ?_
      refine ⟨?_, hF1⟩
      unfold q_sure
      simp only [Int.toNat_natCast]
      rw [if_pos hz9, hN, show 2 * N / 2 = N by omega]
      rw [if_pos (by omega)]
  · skip
    refine Ev.iload_n (q := 17) dX12_sure_16 rfl rfl ?_
    refine rI dX12_sure_17 rfl ?_
    refine ⟨?_, hF0⟩
    unfold q_sure
    rw [if_neg (by assumption)]
set_option maxRecDepth 4000 in
theorem l_look {Γ : Gm} {d : Nat} {m M0 M1 : Mem} (t l F cnt own : Nat) (lit : Nat → Nat) (x3 : Int) (hl : l < 3) (hF : M0 212 1 = F) (hF12 : F ≤ 12) (hown : M0 212 (60 + l) = own) (hFr : Fr sQ m M1) (g1 : M1 212 = M0 212) (h30 : M1 211 30 = cnt) (hc0 : 0 < cnt) (hc4 : cnt ≤ 4096) (h219 : ∀ f, f < F → M1 219 f = lit f) (hlit : ∀ f, lit f ≤ cnt) : ∀ (n f : Nat) (b ms : Int) (v7 : Vl), f + n = F → Em Γ (d + 6) MX12_look (fun r m' => r = lkN cnt lit own n f b ms ∧ Fr sQ m m') 39 [rv 211, iv t, iv l, iv x3, iv b, iv ms, iv f, v7] [] M1 := by
  intro n
  induction n with
  | zero =>
    intro f b ms v7 hf
    obtain rfl : F = f := by omega
    refine Ev.iload (q := 41) dX12_look_39 rfl rfl ?_
    refine Ev.aload_n (q := 42) dX12_look_41 rfl rfl ?_
    refine gR (q := 45) dX12_look_42 gfX12_13 k211 r211_1 rfl rfl ?_
    refine Ev.iconst (q := 46) dX12_look_45 ki_1 rfl ?_
    refine aI (q := 47) (k := 1) dX12_look_46 k212 (by rfl) (by decide) rfl ?_
    rw [g1, hF]
    refine Ev.icmp_ge (tgt := 141) (q := 50) dX12_look_47 (by decide) rfl (fun h1 => ?_) (fun h1 => ?_)
    · skip
      refine Ev.iload (q := 143) dX12_look_141 rfl rfl ?_
      refine rI dX12_look_143 rfl ?_
      exact ⟨rfl, hFr⟩
    · skip
      omega
  | succ n ih =>
    intro f b ms v7 hf
    refine Ev.iload (q := 41) dX12_look_39 rfl rfl ?_
    refine Ev.aload_n (q := 42) dX12_look_41 rfl rfl ?_
    refine gR (q := 45) dX12_look_42 gfX12_13 k211 r211_1 rfl rfl ?_
    refine Ev.iconst (q := 46) dX12_look_45 ki_1 rfl ?_
    refine aI (q := 47) (k := 1) dX12_look_46 k212 (by rfl) (by decide) rfl ?_
    rw [g1, hF]
    refine Ev.icmp_ge (tgt := 141) (q := 50) dX12_look_47 (by decide) rfl (fun h1 => ?_) (fun h1 => ?_)
    · skip
      omega
    · skip
      refine Ev.aload_n (q := 51) dX12_look_50 rfl rfl ?_
      refine gI (q := 54) dX12_look_51 gfX12_418 k211 rfl rfl ?_
      rw [h30]
      refine Ev.if_le (tgt := 141) (q := 57) dX12_look_54 (by decide) rfl (fun h2 => ?_) (fun h2 => ?_)
      · skip
        omega
      · skip
        refine Ev.aload_n (q := 58) dX12_look_57 rfl rfl ?_
        refine gR (q := 61) dX12_look_58 gfX12_39 k211 r211_29 rfl rfl ?_
        refine Ev.iload (q := 63) dX12_look_61 rfl rfl ?_
        refine aI (q := 64) (k := f) dX12_look_63 k219 (by first | rfl | omega | (simp (disch := omega) only [w32_of]; omega)) (by omega) rfl ?_
        rw [h219 f (by omega)]
        refine Ev.aload_n (q := 65) dX12_look_64 rfl rfl ?_
        refine gI (q := 68) dX12_look_65 gfX12_418 k211 rfl rfl ?_
        rw [h30]
        refine Ev.aload_n (q := 69) dX12_look_68 rfl rfl ?_
        refine gR (q := 72) dX12_look_69 gfX12_39 k211 r211_29 rfl rfl ?_
        refine Ev.iload (q := 74) dX12_look_72 rfl rfl ?_
        refine aI (q := 75) (k := f) dX12_look_74 k219 (by first | rfl | omega | (simp (disch := omega) only [w32_of]; omega)) (by omega) rfl ?_
        rw [h219 f (by omega)]
        refine Ev.isub (q := 76) dX12_look_75 rfl ?_
        have hlc := hlit f
        rw [w32_of (by omega) (by omega)]
        refine Ev.icmp_ge (tgt := 89) (q := 79) dX12_look_76 (by decide) rfl (fun h3 => ?_) (fun h3 => ?_)
        · skip
          refine Ev.aload_n (q := 90) dX12_look_89 rfl rfl ?_
          refine gI (q := 93) dX12_look_90 gfX12_418 k211 rfl rfl ?_
          rw [h30]
          refine Ev.aload_n (q := 94) dX12_look_93 rfl rfl ?_
          refine gR (q := 97) dX12_look_94 gfX12_39 k211 r211_29 rfl rfl ?_
          refine Ev.iload (q := 99) dX12_look_97 rfl rfl ?_
          refine aI (q := 100) (k := f) dX12_look_99 k219 (by first | rfl | omega | (simp (disch := omega) only [w32_of]; omega)) (by omega) rfl ?_
          rw [h219 f (by omega)]
          refine Ev.isub (q := 101) dX12_look_100 rfl ?_
          rw [show w32 ((cnt : Int) - (lit f : Int)) = (if lit f < cnt - lit f then (lit f : Int) else ((cnt - lit f : Nat) : Int)) by rw [if_neg (by omega), w32_of (by omega) (by omega)]; omega]
          refine istore_7 (q := 103) dX12_look_101 rfl rfl rfl ?_
          refine Ev.iload (q := 105) dX12_look_103 rfl rfl ?_
          refine Ev.aload_n (q := 106) dX12_look_105 rfl rfl ?_
          refine gR (q := 109) dX12_look_106 gfX12_13 k211 r211_1 rfl rfl ?_
          refine Ev.bipush (q := 111) dX12_look_109 kb_60 rfl ?_
          refine Ev.iload_n (q := 112) dX12_look_111 rfl rfl ?_
          refine Ev.iadd (q := 113) dX12_look_112 rfl ?_
          refine aI (q := 114) (k := 60 + l) dX12_look_113 k212 (by first | rfl | omega | (simp (disch := omega) only [w32_of]; omega)) (by omega) rfl ?_
          rw [g1, hown]
          refine Ev.icmp_eq (tgt := 135) (q := 117) dX12_look_114 (by decide) rfl (fun h4 => ?_) (fun h4 => ?_)
          · skip
            refine iinc_6 (q := 138) dX12_look_135 rfl rfl rfl ?_
            refine Ev.goto (q := 39) dX12_look_138 (by decide) ?_
            rw [w32_of (by omega) (by omega)]
            have hk9 := ih (f + 1) b ms (iv (if lit f < cnt - lit f then (lit f : Int) else ((cnt - lit f : Nat) : Int))) (by omega)
            rw [show lkN cnt lit own (n + 1) f b ms = lkN cnt lit own n (f + 1) b ms by conv => lhs; unfold lkN; rw [if_pos (Or.inl (by omega))]]
            exact hk9
          · skip
            refine Ev.iload (q := 119) dX12_look_117 rfl rfl ?_
            refine Ev.iload (q := 121) dX12_look_119 rfl rfl ?_
            refine Ev.icmp_gt (tgt := 127) (q := 124) dX12_look_121 (by decide) rfl (fun h5 => ?_) (fun h5 => ?_)
            · skip
              refine Ev.iload (q := 129) dX12_look_127 rfl rfl ?_
              refine istore_4 (q := 131) dX12_look_129 rfl rfl rfl ?_
              refine Ev.iload (q := 133) dX12_look_131 rfl rfl ?_
              refine istore_5 (q := 135) dX12_look_133 rfl rfl rfl ?_
              refine iinc_6 (q := 138) dX12_look_135 rfl rfl rfl ?_
              refine Ev.goto (q := 39) dX12_look_138 (by decide) ?_
              rw [w32_of (by omega) (by omega)]
              have hk9 := ih (f + 1) (f : Int) (if lit f < cnt - lit f then (lit f : Int) else ((cnt - lit f : Nat) : Int)) (iv (if lit f < cnt - lit f then (lit f : Int) else ((cnt - lit f : Nat) : Int))) (by omega)
              rw [show lkN cnt lit own (n + 1) f b ms = lkN cnt lit own n (f + 1) (f : Int) (if lit f < cnt - lit f then (lit f : Int) else ((cnt - lit f : Nat) : Int)) by conv => lhs; unfold lkN; rw [if_neg (fun z => by rcases z with z | z <;> omega)]]
              exact hk9
            · skip
              refine Ev.goto (q := 135) dX12_look_124 (by decide) ?_
              refine iinc_6 (q := 138) dX12_look_135 rfl rfl rfl ?_
              refine Ev.goto (q := 39) dX12_look_138 (by decide) ?_
              rw [w32_of (by omega) (by omega)]
              have hk9 := ih (f + 1) b ms (iv (if lit f < cnt - lit f then (lit f : Int) else ((cnt - lit f : Nat) : Int))) (by omega)
              rw [show lkN cnt lit own (n + 1) f b ms = lkN cnt lit own n (f + 1) b ms by conv => lhs; unfold lkN; rw [if_pos (Or.inr (by omega))]]
              exact hk9
        · skip
          refine Ev.aload_n (q := 80) dX12_look_79 rfl rfl ?_
          refine gR (q := 83) dX12_look_80 gfX12_39 k211 r211_29 rfl rfl ?_
          refine Ev.iload (q := 85) dX12_look_83 rfl rfl ?_
          refine aI (q := 86) (k := f) dX12_look_85 k219 (by first | rfl | omega | (simp (disch := omega) only [w32_of]; omega)) (by omega) rfl ?_
          rw [h219 f (by omega)]
          rw [show (lit f : Int) = (if lit f < cnt - lit f then (lit f : Int) else ((cnt - lit f : Nat) : Int)) by rw [if_pos (by omega)]]
          refine Ev.goto (q := 101) dX12_look_86 (by decide) ?_
          refine istore_7 (q := 103) dX12_look_101 rfl rfl rfl ?_
          refine Ev.iload (q := 105) dX12_look_103 rfl rfl ?_
          refine Ev.aload_n (q := 106) dX12_look_105 rfl rfl ?_
          refine gR (q := 109) dX12_look_106 gfX12_13 k211 r211_1 rfl rfl ?_
          refine Ev.bipush (q := 111) dX12_look_109 kb_60 rfl ?_
          refine Ev.iload_n (q := 112) dX12_look_111 rfl rfl ?_
          refine Ev.iadd (q := 113) dX12_look_112 rfl ?_
          refine aI (q := 114) (k := 60 + l) dX12_look_113 k212 (by first | rfl | omega | (simp (disch := omega) only [w32_of]; omega)) (by omega) rfl ?_
          rw [g1, hown]
          refine Ev.icmp_eq (tgt := 135) (q := 117) dX12_look_114 (by decide) rfl (fun h6 => ?_) (fun h6 => ?_)
          · skip
            refine iinc_6 (q := 138) dX12_look_135 rfl rfl rfl ?_
            refine Ev.goto (q := 39) dX12_look_138 (by decide) ?_
            rw [w32_of (by omega) (by omega)]
            have hk9 := ih (f + 1) b ms (iv (if lit f < cnt - lit f then (lit f : Int) else ((cnt - lit f : Nat) : Int))) (by omega)
            rw [show lkN cnt lit own (n + 1) f b ms = lkN cnt lit own n (f + 1) b ms by conv => lhs; unfold lkN; rw [if_pos (Or.inl (by omega))]]
            exact hk9
          · skip
            refine Ev.iload (q := 119) dX12_look_117 rfl rfl ?_
            refine Ev.iload (q := 121) dX12_look_119 rfl rfl ?_
            refine Ev.icmp_gt (tgt := 127) (q := 124) dX12_look_121 (by decide) rfl (fun h7 => ?_) (fun h7 => ?_)
            · skip
              refine Ev.iload (q := 129) dX12_look_127 rfl rfl ?_
              refine istore_4 (q := 131) dX12_look_129 rfl rfl rfl ?_
              refine Ev.iload (q := 133) dX12_look_131 rfl rfl ?_
              refine istore_5 (q := 135) dX12_look_133 rfl rfl rfl ?_
              refine iinc_6 (q := 138) dX12_look_135 rfl rfl rfl ?_
              refine Ev.goto (q := 39) dX12_look_138 (by decide) ?_
              rw [w32_of (by omega) (by omega)]
              have hk9 := ih (f + 1) (f : Int) (if lit f < cnt - lit f then (lit f : Int) else ((cnt - lit f : Nat) : Int)) (iv (if lit f < cnt - lit f then (lit f : Int) else ((cnt - lit f : Nat) : Int))) (by omega)
              rw [show lkN cnt lit own (n + 1) f b ms = lkN cnt lit own n (f + 1) (f : Int) (if lit f < cnt - lit f then (lit f : Int) else ((cnt - lit f : Nat) : Int)) by conv => lhs; unfold lkN; rw [if_neg (fun z => by rcases z with z | z <;> omega)]]
              exact hk9
            · skip
              refine Ev.goto (q := 135) dX12_look_124 (by decide) ?_
              refine iinc_6 (q := 138) dX12_look_135 rfl rfl rfl ?_
              refine Ev.goto (q := 39) dX12_look_138 (by decide) ?_
              rw [w32_of (by omega) (by omega)]
              have hk9 := ih (f + 1) b ms (iv (if lit f < cnt - lit f then (lit f : Int) else ((cnt - lit f : Nat) : Int))) (by omega)
              rw [show lkN cnt lit own (n + 1) f b ms = lkN cnt lit own n (f + 1) b ms by conv => lhs; unfold lkN; rw [if_pos (Or.inr (by omega))]]
              exact hk9
set_option maxRecDepth 4000 in
theorem p_X12_look {Γ : Gm} {d : Nat} {m : Mem} (t l : Int) (hI : HI (m 212)) (h221 : ∀ i, i < 4 → 0 ≤ m 221 i ∧ m 221 i ≤ 40) : Ci Γ (d + 6) MX12_look [rv 211, iv t, iv l] m (fun r m' => r = q_look (m 212) (fun i => m 222 (40 * t.toNat + i)) (m 220 t.toNat) (m 221 t.toNat).toNat t l ∧ Fr sQ m m') := by
  refine Ci.of moX12_look rfl rfl (fun hA hM => ?_)
  show Em Γ (d + 6) MX12_look _ 0 [rv 211, iv t, iv l, uv, uv, uv, uv, uv] [] m
  refine Ev.aload_n (q := 1) dX12_look_0 rfl rfl ?_
  refine Ev.iconst (q := 2) dX12_look_1 ki_0 rfl ?_
  refine pI (q := 5) dX12_look_2 gfX12_1 k211 rfl rfl ?_
  obtain ⟨M0, hM0⟩ : ∃ M0, M0 = up m 211 0 0 := ⟨_, rfl⟩
  rw [← hM0]
  have hF0 : Fr sQ m M0 := by rw [hM0]; exact (Fr.rf _ _).up rfl
  have g0 : M0 212 = m 212 := hF0.row 212 (fun _ => rfl)
  rw [← g0] at hI ⊢
  have hF12 := hI.1
  have hL3 := hI.2.1
  have hP8 := hI.2.2.1
  have g20 : M0 220 = m 220 := hF0.row 220 (fun _ => rfl)
  have g21 : M0 221 = m 221 := hF0.row 221 (fun _ => rfl)
  have g22 : M0 222 = m 222 := hF0.row 222 (fun _ => rfl)
  rw [← g20, ← g21, ← g22]
  rw [← g21] at h221
  refine Ev.aload_n (q := 6) dX12_look_5 rfl rfl ?_
  refine Ev.iload_n (q := 7) dX12_look_6 rfl rfl ?_
  refine Ev.iload_n (q := 8) dX12_look_7 rfl rfl ?_
  refine cV2i (q := 11) (d' := d + 5) dX12_look_8 mlX12_428 moX12_noSeen mvX12_noSeen k211 rfl rfl rfl (Nat.le_refl _) rfl rfl rfl (p_X12_noSeen t l hI h221) (fun r1 m1 e1 => ?_)
  obtain ⟨rfl, e1⟩ := e1
  obtain rfl := e1.symm
  refine istore_n_3 (q := 12) dX12_look_11 rfl rfl rfl ?_
  refine Ev.iload_n (q := 13) dX12_look_12 rfl rfl ?_
  refine Ev.if_eq (tgt := 18) (q := 16) dX12_look_13 (by decide) rfl (fun h2 => ?_) (fun h2 => ?_)
  · skip
    obtain ⟨hT, hLL, hs, N, hN, hN1, hN8, hbd⟩ := nos_0 h2
    obtain ⟨tn, rfl⟩ : ∃ tn : Nat, t = tn := ⟨t.toNat, by omega⟩
    obtain ⟨ln, rfl⟩ : ∃ ln : Nat, l = ln := ⟨l.toNat, by omega⟩
    simp only [Int.toNat_natCast] at hN hbd
    have h2N : M0 221 tn = ((2 * N : Nat) : Int) := by have := h221 tn (by omega); omega
    have hz9 := h2
    simp only [Int.toNat_natCast] at hz9
    have hnn : ∀ i, i < N → 0 ≤ M0 222 (40 * tn + 2 * i) := fun i hi => ((badS_at hbd (2 * i) (by omega)).1 (by omega)).1
    have hLow := (hI.lift (l := ln) (by omega)).1
    refine Ev.aload_n (q := 19) dX12_look_18 rfl rfl ?_
    refine Ev.iload_n (q := 20) dX12_look_19 rfl rfl ?_
    refine Ev.iload_n (q := 21) dX12_look_20 rfl rfl ?_
    refine Ev.aload_n (q := 22) dX12_look_21 rfl rfl ?_
    refine gR (q := 25) dX12_look_22 gfX12_45 k211 r211_33 rfl rfl ?_
    refine Ev.iload_n (q := 26) dX12_look_25 rfl rfl ?_
    refine aI (q := 27) (k := tn) dX12_look_26 k221 (by first | rfl | omega | (simp (disch := omega) only [w32_of]; omega)) (by omega) rfl ?_
    rw [h2N]
    refine cV3v (q := 30) (d' := d + 5) dX12_look_27 mlX12_431 moX12_laysFits mvX12_laysFits k211 rfl rfl rfl (Nat.le_refl _) rfl rfl rfl (p_X12_laysFits tn ln N (by omega) hN8 hI (by omega) hnn) (fun r3 m3 e3 => ?_)
    obtain ⟨hLI, hfr⟩ := e3
    have hF1 := hF0.tr (hfr.mono (fun a k q => sQ_Lf q))
    have g1 : m3 212 = M0 212 := hfr.row 212 (fun _ => rfl)
    generalize m3 = M1 at *
    refine Ev.iconst (q := 31) dX12_look_30 ki_m1 rfl ?_
    refine istore_4 (q := 33) dX12_look_31 rfl rfl rfl ?_
    refine Ev.iconst (q := 34) dX12_look_33 ki_m1 rfl ?_
    refine istore_5 (q := 36) dX12_look_34 rfl rfl rfl ?_
    refine Ev.iconst (q := 37) dX12_look_36 ki_0 rfl ?_
    refine istore_6 (q := 39) dX12_look_37 rfl rfl rfl ?_
    have hc4 := cntF_le (M0 212) (fun i => M0 222 (40 * tn + i)) ln N (2 ^ (M0 212 1).toNat)
    have h2F : (2 : Nat) ^ (M0 212 1).toNat ≤ 4096 := by have : 2 ^ (M0 212 1).toNat ≤ 2 ^ 12 := Nat.pow_le_pow_right (by decide) (by omega); omega
    by_cases hc : cntF (M0 212) (fun i => M0 222 (40 * tn + i)) ln N (2 ^ (M0 212 1).toNat) = 0
    · skip
      refine Ev.iload (q := 41) dX12_look_39 rfl rfl ?_
      refine Ev.aload_n (q := 42) dX12_look_41 rfl rfl ?_
      refine gR (q := 45) dX12_look_42 gfX12_13 k211 r211_1 rfl rfl ?_
      refine Ev.iconst (q := 46) dX12_look_45 ki_1 rfl ?_
      refine aI (q := 47) (k := 1) dX12_look_46 k212 (by rfl) (by decide) rfl ?_
      rw [g1]
      refine Ev.icmp_ge (tgt := 141) (q := 50) dX12_look_47 (by decide) rfl (fun h1 => ?_) (fun h1 => ?_)
      · skip
        omega
      · skip
        refine Ev.aload_n (q := 51) dX12_look_50 rfl rfl ?_
        refine gI (q := 54) dX12_look_51 gfX12_418 k211 rfl rfl ?_
        rw [hLI.1]
        refine Ev.if_le (tgt := 141) (q := 57) dX12_look_54 (by decide) rfl (fun h2 => ?_) (fun h2 => ?_)
        · skip
          refine Ev.iload (q := 143) dX12_look_141 rfl rfl ?_
          refine rI dX12_look_143 rfl ?_
          refine ⟨?_, hF1⟩
          unfold q_look
          simp only [Int.toNat_natCast]
          rw [if_pos hz9, hN, show 2 * N / 2 = N by omega]
          rw [if_pos hc]
        · skip
          omega
    · unfold q_look
      simp only [Int.toNat_natCast]
      rw [if_pos hz9, hN, show 2 * N / 2 = N by omega, if_neg hc]
      exact l_look (Γ := Γ) (d := d) (m := m) (M0 := M0) (M1 := M1) tn ln (M0 212 1).toNat _ (M0 212 (60 + ln)).toNat _ _ (by omega) (by omega) (by omega) (by omega) hF1 g1 hLI.1 (by omega) (by omega) hLI.2.2 (fun f => litF_cnt _ _ _ _ _ _) (M0 212 1).toNat 0 (-1) (-1) uv (by omega)
  · skip
    refine Ev.iload_n (q := 17) dX12_look_16 rfl rfl ?_
    refine rI dX12_look_17 rfl ?_
    refine ⟨?_, hF0⟩
    unfold q_look
    rw [if_neg (by assumption)]
set_option maxRecDepth 4000 in
theorem l_odd {Γ : Gm} {d : Nat} {m M0 : Mem} (t l N : Nat) (x3 : Int) (ht : t < 4) (hN8 : N ≤ 8) (hI : HI (M0 212)) (hl : (l : Int) < M0 212 2) (hg21 : M0 221 = m 221) (h2N : M0 221 t = ((2 * N : Nat) : Int)) (hnn : ∀ i, i < N → 0 ≤ M0 222 (40 * t + 2 * i)) : ∀ (n k : Nat) (M : Mem), k + n = N + 1 → 1 ≤ k → Fr sQ m M → M 212 = M0 212 → M 222 = M0 222 → Em Γ (d + 6) MX12_odd (fun r m' => r = odN (M0 212) (fun i => M0 222 (40 * t + i)) l n k ∧ Fr sQ m m') 21 [rv 211, iv t, iv l, iv x3, iv ((2 * k : Nat) : Int)] [] M := by
  intro n
  induction n with
  | zero =>
    intro k M hk hk1 hFr g12 g22
    obtain rfl : k = N + 1 := by omega
    refine Ev.iload (q := 23) dX12_odd_21 rfl rfl ?_
    refine Ev.aload_n (q := 24) dX12_odd_23 rfl rfl ?_
    refine gR (q := 27) dX12_odd_24 gfX12_45 k211 r211_33 rfl rfl ?_
    refine Ev.iload_n (q := 28) dX12_odd_27 rfl rfl ?_
    refine aI (q := 29) (k := t) dX12_odd_28 k221 (by first | rfl | omega | (simp (disch := omega) only [w32_of]; omega)) (by omega) rfl ?_
    rw [show M 221 t = ((2 * N : Nat) : Int) by rw [hFr 221 t rfl, ← hg21]; exact h2N]
    refine Ev.icmp_gt (tgt := 60) (q := 32) dX12_odd_29 (by decide) rfl (fun h1 => ?_) (fun h1 => ?_)
    · skip
      refine Ev.iconst (q := 61) dX12_odd_60 ki_m1 rfl ?_
      refine rI dX12_odd_61 rfl ?_
      exact ⟨rfl, hFr⟩
    · skip
      omega
  | succ n ih =>
    intro k M hk hk1 hFr g12 g22
    refine Ev.iload (q := 23) dX12_odd_21 rfl rfl ?_
    refine Ev.aload_n (q := 24) dX12_odd_23 rfl rfl ?_
    refine gR (q := 27) dX12_odd_24 gfX12_45 k211 r211_33 rfl rfl ?_
    refine Ev.iload_n (q := 28) dX12_odd_27 rfl rfl ?_
    refine aI (q := 29) (k := t) dX12_odd_28 k221 (by first | rfl | omega | (simp (disch := omega) only [w32_of]; omega)) (by omega) rfl ?_
    rw [show M 221 t = ((2 * N : Nat) : Int) by rw [hFr 221 t rfl, ← hg21]; exact h2N]
    refine Ev.icmp_gt (tgt := 60) (q := 32) dX12_odd_29 (by decide) rfl (fun h1 => ?_) (fun h1 => ?_)
    · skip
      omega
    · skip
      refine Ev.aload_n (q := 33) dX12_odd_32 rfl rfl ?_
      refine Ev.iload_n (q := 34) dX12_odd_33 rfl rfl ?_
      refine Ev.iload_n (q := 35) dX12_odd_34 rfl rfl ?_
      refine Ev.iload (q := 37) dX12_odd_35 rfl rfl ?_
      refine cV3v (q := 40) (d' := d + 5) dX12_odd_37 mlX12_431 moX12_laysFits mvX12_laysFits k211 rfl rfl rfl (Nat.le_refl _) rfl rfl rfl (p_X12_laysFits t l k ht (by omega) (by rw [g12]; exact hI) (by rw [g12]; exact hl) (by rw [g22]; exact fun i hi => hnn i (by omega))) (fun r2 m2 e2 => ?_)
      obtain ⟨hLI, hfr⟩ := e2
      rw [g12, g22] at hLI
      have hF1 := hFr.tr (hfr.mono (fun a k q => sQ_Lf q))
      have g1 : m2 212 = M0 212 := by rw [hfr.row 212 (fun _ => rfl)]; exact g12
      have g3 : m2 222 = M0 222 := by rw [hfr.row 222 (fun _ => rfl)]; exact g22
      generalize m2 = M1 at *
      refine Ev.aload_n (q := 41) dX12_odd_40 rfl rfl ?_
      refine gI (q := 44) dX12_odd_41 gfX12_418 k211 rfl rfl ?_
      rw [hLI.1]
      refine Ev.if_ne (tgt := 54) (q := 47) dX12_odd_44 (by decide) rfl (fun h3 => ?_) (fun h3 => ?_)
      · skip
        refine iinc_4 (q := 57) dX12_odd_54 rfl rfl rfl ?_
        refine Ev.goto (q := 21) dX12_odd_57 (by decide) ?_
        rw [w32_of (by omega) (by omega), show (((2 * k : Nat) : Int) + 2) = ((2 * (k + 1) : Nat) : Int) by omega]
        have hk9 := ih (k + 1) M1 (by omega) (by omega) hF1 g1 g3
        unfold odN
        rw [if_neg (by omega)]
        exact hk9
      · skip
        refine Ev.iload (q := 49) dX12_odd_47 rfl rfl ?_
        refine Ev.iconst (q := 50) dX12_odd_49 ki_2 rfl ?_
        refine Ev.idiv (q := 51) dX12_odd_50 (by decide) rfl ?_
        rw [show o_idiv ((2 * k : Nat) : Int) 2 = ((2 * k / 2 : Nat) : Int) from idiv_n (a := 2 * k) (b := 2) (by omega) (by decide) (by decide), show 2 * k / 2 = k by omega]
        refine Ev.iconst (q := 52) dX12_odd_51 ki_1 rfl ?_
        refine Ev.isub (q := 53) dX12_odd_52 rfl ?_
        refine rI dX12_odd_53 rfl ?_
        refine ⟨?_, hF1⟩
        unfold odN
        rw [if_pos (by omega), w32_of (by omega) (by omega)]
set_option maxRecDepth 4000 in
theorem p_X12_odd {Γ : Gm} {d : Nat} {m : Mem} (t l : Int) (hI : HI (m 212)) (h221 : ∀ i, i < 4 → 0 ≤ m 221 i ∧ m 221 i ≤ 40) : Ci Γ (d + 6) MX12_odd [rv 211, iv t, iv l] m (fun r m' => r = q_odd (m 212) (fun i => m 222 (40 * t.toNat + i)) (m 220 t.toNat) (m 221 t.toNat).toNat t l ∧ Fr sQ m m') := by
  refine Ci.of moX12_odd rfl rfl (fun hA hM => ?_)
  show Em Γ (d + 6) MX12_odd _ 0 [rv 211, iv t, iv l, uv, uv] [] m
  refine Ev.aload_n (q := 1) dX12_odd_0 rfl rfl ?_
  refine Ev.iconst (q := 2) dX12_odd_1 ki_0 rfl ?_
  refine pI (q := 5) dX12_odd_2 gfX12_1 k211 rfl rfl ?_
  obtain ⟨M0, hM0⟩ : ∃ M0, M0 = up m 211 0 0 := ⟨_, rfl⟩
  rw [← hM0]
  have hF0 : Fr sQ m M0 := by rw [hM0]; exact (Fr.rf _ _).up rfl
  have g0 : M0 212 = m 212 := hF0.row 212 (fun _ => rfl)
  rw [← g0] at hI ⊢
  have hF12 := hI.1
  have hL3 := hI.2.1
  have hP8 := hI.2.2.1
  have g20 : M0 220 = m 220 := hF0.row 220 (fun _ => rfl)
  have g21 : M0 221 = m 221 := hF0.row 221 (fun _ => rfl)
  have g22 : M0 222 = m 222 := hF0.row 222 (fun _ => rfl)
  rw [← g20, ← g21, ← g22]
  rw [← g21] at h221
  refine Ev.aload_n (q := 6) dX12_odd_5 rfl rfl ?_
  refine Ev.iload_n (q := 7) dX12_odd_6 rfl rfl ?_
  refine Ev.iload_n (q := 8) dX12_odd_7 rfl rfl ?_
  refine cV2i (q := 11) (d' := d + 5) dX12_odd_8 mlX12_428 moX12_noSeen mvX12_noSeen k211 rfl rfl rfl (Nat.le_refl _) rfl rfl rfl (p_X12_noSeen t l hI h221) (fun r1 m1 e1 => ?_)
  obtain ⟨rfl, e1⟩ := e1
  obtain rfl := e1.symm
  refine istore_n_3 (q := 12) dX12_odd_11 rfl rfl rfl ?_
  refine Ev.iload_n (q := 13) dX12_odd_12 rfl rfl ?_
  refine Ev.if_eq (tgt := 18) (q := 16) dX12_odd_13 (by decide) rfl (fun h2 => ?_) (fun h2 => ?_)
  · skip
    obtain ⟨hT, hLL, hs, N, hN, hN1, hN8, hbd⟩ := nos_0 h2
    obtain ⟨tn, rfl⟩ : ∃ tn : Nat, t = tn := ⟨t.toNat, by omega⟩
    obtain ⟨ln, rfl⟩ : ∃ ln : Nat, l = ln := ⟨l.toNat, by omega⟩
    simp only [Int.toNat_natCast] at hN hbd
    have h2N : M0 221 tn = ((2 * N : Nat) : Int) := by have := h221 tn (by omega); omega
    have hz9 := h2
    simp only [Int.toNat_natCast] at hz9
    have hnn : ∀ i, i < N → 0 ≤ M0 222 (40 * tn + 2 * i) := fun i hi => ((badS_at hbd (2 * i) (by omega)).1 (by omega)).1
    have hLow := (hI.lift (l := ln) (by omega)).1
    refine Ev.iconst (q := 19) dX12_odd_18 ki_2 rfl ?_
    refine istore_4 (q := 21) dX12_odd_19 rfl rfl rfl ?_
    unfold q_odd
    simp only [Int.toNat_natCast]
    rw [if_pos hz9, hN, show 2 * N / 2 = N by omega]
    exact l_odd (Γ := Γ) (d := d) (m := m) (M0 := M0) tn ln N _ (by omega) hN8 hI (by omega) g21 h2N hnn N 1 M0 (by omega) (by omega) hF0 rfl rfl
  · skip
    refine Ev.iload_n (q := 17) dX12_odd_16 rfl rfl ?_
    refine rI dX12_odd_17 rfl ?_
    refine ⟨?_, hF0⟩
    unfold q_odd
    rw [if_neg (by assumption)]
