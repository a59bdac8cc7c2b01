/-! ===== the reference: undone, judged, performed, drawn; images; counts ===== -/
def undG (g : Nat → Int) (k : Nat) : Nat → Int := fun j => if j = 96 then (k : Int) else if 60 ≤ j ∧ j < 96 then g (97 + 36 * k + (j - 60)) else g j
def judV (g num : Nat → Int) (many : Nat) (what : Int) : Int := if what = 0 then (if (telN num many 0 g).1 = 0 then -1 else ((telN num many 0 g).2.1 : Int)) else if what = 1 then (telN num many 0 g).1 else if what = 2 then (homS (telN num many 0 g).2.2 : Int) else (lmC (telN num many 0 g).2.2 : Int)
def q_judge (g num : Nat → Int) (sort : Int) (many : Nat) (t what : Int) : Int := if (0 ≤ t ∧ t ≤ 3) ∧ (0 ≤ what ∧ what ≤ 3) then (if sort = -1 then -6 else judV g num many what) else -2
def perG (g num : Nat → Int) (many : Nat) : Nat → Int := if 0 < (telN num many 0 g).2.1 then notG (telN num many 0 g).2.2 (wasG g) else (telN num many 0 g).2.2
def eveN (L P F : Nat) : Nat → Int → Nat → (Nat → Int) → Nat × (Nat → Int)
  | 0, _, c, g => (c, g)
  | n + 1, x, c, g => if whyN g (numD (drnV L P F x).2.1 (drnV L P F x).2.2.1 (drnV L P F x).2.2.2 : Nat) = 0 then eveN L P F n (drnV L P F x).1 (c + 1) (doN g (numD (drnV L P F x).2.1 (drnV L P F x).2.2.1 (drnV L P F x).2.2.2 : Nat)) else eveN L P F n (drnV L P F x).1 c g
def eveV (g : Nat → Int) (seed : Int) (n : Nat) : Nat × (Nat → Int) := eveN (g 2).toNat (g 3).toNat (g 1).toNat n seed 0 g
theorem eveN_ok {L P F : Nat} : ∀ (n : Nat) (x : Int) (c : Nat) (g : Nat → Int), HI g → HI (eveN L P F n x c g).2 ∧ Kp g (eveN L P F n x c g).2 ∧ (eveN L P F n x c g).1 ≤ c + n := by
  intro n
  induction n with
  | zero => intro x c g h; exact ⟨h, Kp.rf g, Nat.le_refl _⟩
  | succ n ih =>
    intro x c g h
    unfold eveN
    split
    · rename_i hw
      have h1 := HI_N h hw
      have h2 := ih (drnV L P F x).1 (c + 1) _ h1.1
      exact ⟨h2.1, h1.2.tr h2.2.1, by omega⟩
    · have h2 := ih (drnV L P F x).1 c g h
      exact ⟨h2.1, h2.2.1, by omega⟩
def imgG (g : Nat → Int) (i : Nat) : Nat → Int := fun j => if 1358 * (i + 1) ≤ j ∧ j < 1358 * (i + 1) + 1358 then g (j - 1358 * (i + 1)) else g j
def resG (g : Nat → Int) (i : Nat) : Nat → Int := fun j => if j = 96 then 0 else if j < 1358 then g (1358 * (i + 1) + j) else g j
def q_count (g : Nat → Int) (taped what : Int) : Int := if what = 0 then g 1 else if what = 1 then g 2 else if what = 2 then g 3 else if what = 3 then (ridC g : Int) else if what = 4 then (pop (homS g) : Int) else if what = 5 then (lmC g : Int) else if what = 6 then g 96 else if what = 7 then taped else if what = 8 then g 0 else -1
set_option maxRecDepth 4000 in
theorem l_undo {Γ : Gm} {d : Nat} {m : Mem} (K : Nat) (g0 g : Nat → Int) (x1 : Int) (hK : K < 10) (hg : g 96 = K) (hgo : ∀ j, j ≠ 96 → g j = g0 j) : ∀ (q k : Nat) (M : Mem), k + q = 36 → (∀ j, M 212 j = if 60 ≤ j ∧ j < 60 + k then g (97 + 36 * K + (j - 60)) else g j) → Fr sD m M → Em Γ (d + 1) MX12_undo (fun r m' => r = K ∧ m' 212 = undG g0 K ∧ Fr sD m m') 44 [rv 211, iv x1, iv k] [] M := by
  intro q
  induction q with
  | zero =>
    intro k M hk hv hFr
    obtain rfl : k = 36 := by omega
    refine Ev.iload_n (q := 45) dX12_undo_44 rfl rfl ?_
    refine Ev.bipush (q := 47) dX12_undo_45 kb_36 rfl ?_
    refine Ev.icmp_ge (tgt := 85) (q := 50) dX12_undo_47 (by decide) rfl (fun h1 => ?_) (fun h1 => ?_)
    · skip
      refine Ev.aload_n (q := 86) dX12_undo_85 rfl rfl ?_
      refine gR (q := 89) dX12_undo_86 gfX12_13 k211 r211_1 rfl rfl ?_
      refine Ev.bipush (q := 91) dX12_undo_89 kb_96 rfl ?_
      refine aI (q := 92) (k := 96) dX12_undo_91 k212 (by rfl) (by decide) rfl ?_
      refine rI dX12_undo_92 rfl ?_
      refine ⟨?_, funext fun j => ?_, hFr⟩
      · rw [hv, if_neg (by omega)]; exact hg
      · rw [hv j]; unfold undG; by_cases h1 : j = 96
        · rw [if_pos h1, if_neg (by omega), h1]; exact hg
        · rw [if_neg h1]
          by_cases h2 : 60 ≤ j ∧ j < 96
          · rw [if_pos h2, if_pos (by omega), hgo _ (by omega)]
          · rw [if_neg h2, if_neg (by omega), hgo j h1]
    · skip
      omega
  | succ q ih =>
    intro k M hk hv hFr
    refine Ev.iload_n (q := 45) dX12_undo_44 rfl rfl ?_
    refine Ev.bipush (q := 47) dX12_undo_45 kb_36 rfl ?_
    refine Ev.icmp_ge (tgt := 85) (q := 50) dX12_undo_47 (by decide) rfl (fun h1 => ?_) (fun h1 => ?_)
    · skip
      omega
    · skip
      refine Ev.aload_n (q := 51) dX12_undo_50 rfl rfl ?_
      refine gR (q := 54) dX12_undo_51 gfX12_13 k211 r211_1 rfl rfl ?_
      refine Ev.bipush (q := 56) dX12_undo_54 kb_60 rfl ?_
      refine Ev.iload_n (q := 57) dX12_undo_56 rfl rfl ?_
      refine Ev.iadd (q := 58) dX12_undo_57 rfl ?_
      refine Ev.aload_n (q := 59) dX12_undo_58 rfl rfl ?_
      refine gR (q := 62) dX12_undo_59 gfX12_13 k211 r211_1 rfl rfl ?_
      refine Ev.bipush (q := 64) dX12_undo_62 kb_97 rfl ?_
      refine Ev.bipush (q := 66) dX12_undo_64 kb_36 rfl ?_
      refine Ev.aload_n (q := 67) dX12_undo_66 rfl rfl ?_
      refine gR (q := 70) dX12_undo_67 gfX12_13 k211 r211_1 rfl rfl ?_
      refine Ev.bipush (q := 72) dX12_undo_70 kb_96 rfl ?_
      refine aI (q := 73) (k := 96) dX12_undo_72 k212 (by rfl) (by decide) rfl ?_
      rw [show M 212 96 = (K : Int) by rw [hv, if_neg (by omega)]; exact hg]
      refine Ev.imul (q := 74) dX12_undo_73 rfl ?_
      refine Ev.iadd (q := 75) dX12_undo_74 rfl ?_
      refine Ev.iload_n (q := 76) dX12_undo_75 rfl rfl ?_
      refine Ev.iadd (q := 77) dX12_undo_76 rfl ?_
      refine aI (q := 78) (k := 97 + 36 * K + k) dX12_undo_77 k212 (by first | rfl | omega | (simp (disch := omega) only [w32_of]; omega)) (by omega) rfl ?_
      refine sI (q := 79) (k := 60 + k) dX12_undo_78 k212 (by first | rfl | omega | (simp (disch := omega) only [w32_of]; omega)) (by omega) rfl ?_
      refine iinc_2 (q := 82) dX12_undo_79 rfl rfl rfl ?_
      refine Ev.goto (q := 44) dX12_undo_82 (by decide) ?_
      rw [w32_of (z := (k : Int) + 1) (by omega) (by omega)]
      refine ih (k + 1) _ (by omega) (fun j => ?_) (hFr.up rfl)
      by_cases hj : j = 60 + k
      · rw [hj, up_eq, if_pos (by omega), hv, if_neg (by omega)]; congr 1; omega
      · rw [up_k _ _ hj, hv j]
        by_cases hq : 60 ≤ j ∧ j < 60 + k
        · rw [if_pos hq, if_pos (by omega)]
        · rw [if_neg hq, if_neg (by omega)]
set_option maxRecDepth 4000 in
theorem p_X12_undo {Γ : Gm} {d : Nat} {m : Mem} (n : Int) (h96 : 0 ≤ m 212 96 ∧ m 212 96 ≤ 10) : Ci Γ (d + 1) MX12_undo [rv 211, iv n] m (fun r m' => ((1 ≤ n ∧ n ≤ m 212 96) → r = m 212 96 - n ∧ m' 212 = undG (m 212) (m 212 96 - n).toNat ∧ Fr sD m m') ∧ (¬ (1 ≤ n ∧ n ≤ m 212 96) → r = -3 ∧ Fr sQ m m')) := by
  refine Ci.of moX12_undo rfl rfl (fun hA hM => ?_)
  show Em Γ (d + 1) MX12_undo _ 0 [rv 211, iv n, uv] [] m
  refine Ev.aload_n (q := 1) dX12_undo_0 rfl rfl ?_
  refine Ev.iconst (q := 2) dX12_undo_1 ki_0 rfl ?_
  refine pI (q := 5) dX12_undo_2 gfX12_1 k211 rfl rfl ?_
  obtain ⟨M0, hM0⟩ : ∃ M0, M0 = up m 211 0 0 := ⟨_, rfl⟩
  rw [← hM0]
  have hF0 : Fr sQ m M0 := by rw [hM0]; exact (Fr.rf _ _).up rfl
  have g0 : M0 212 = m 212 := hF0.row 212 (fun _ => rfl)
  rw [← g0] at h96 ⊢
  clear hM0
  refine Ev.iload_n (q := 6) dX12_undo_5 rfl rfl ?_
  refine Ev.i2l (q := 7) dX12_undo_6 rfl ?_
  refine Ev.lconst (q := 8) dX12_undo_7 kj_1 rfl ?_
  refine Ev.ldc2 (q := 11) dX12_undo_8 klX12_288 klvX12_288 rfl ?_
  refine cS3i (q := 14) (d' := d + 0) dX12_undo_11 mlX12_118 moX12_within msX12_within rfl rfl (Nat.le_refl _) rfl rfl rfl (p_X12_within _ _ _) (fun r1 m1 e1 => ?_)
  obtain ⟨rfl, e1⟩ := e1
  obtain rfl := e1.symm
  refine Ev.if_eq (tgt := 28) (q := 17) dX12_undo_14 (by decide) rfl (fun h2 => ?_) (fun h2 => ?_)
  · skip
    have hN : ¬ (1 ≤ n ∧ n ≤ 10) := by split at h2 <;> omega
    refine Ev.bipush (q := 30) dX12_undo_28 kb_m3 rfl ?_
    refine rI dX12_undo_30 rfl ?_
    exact ⟨fun z => absurd z (by omega), fun _ => ⟨rfl, hF0⟩⟩
  · skip
    have hN : 1 ≤ n ∧ n ≤ 10 := by split at h2 <;> omega
    refine Ev.iload_n (q := 18) dX12_undo_17 rfl rfl ?_
    refine Ev.aload_n (q := 19) dX12_undo_18 rfl rfl ?_
    refine gR (q := 22) dX12_undo_19 gfX12_13 k211 r211_1 rfl rfl ?_
    refine Ev.bipush (q := 24) dX12_undo_22 kb_96 rfl ?_
    refine aI (q := 25) (k := 96) dX12_undo_24 k212 (by rfl) (by decide) rfl ?_
    refine Ev.icmp_le (tgt := 31) (q := 28) dX12_undo_25 (by decide) rfl (fun h3 => ?_) (fun h3 => ?_)
    · skip
      refine Ev.aload_n (q := 32) dX12_undo_31 rfl rfl ?_
      refine gR (q := 35) dX12_undo_32 gfX12_13 k211 r211_1 rfl rfl ?_
      refine Ev.bipush (q := 37) dX12_undo_35 kb_96 rfl ?_
      refine Ev.dup2 (q := 38) dX12_undo_37 (fun z => by cases z) (fun z => by cases z) rfl ?_
      refine aI (q := 39) (k := 96) dX12_undo_38 k212 (by rfl) (by decide) rfl ?_
      refine Ev.iload_n (q := 40) dX12_undo_39 rfl rfl ?_
      refine Ev.isub (q := 41) dX12_undo_40 rfl ?_
      refine sI (q := 42) (k := 96) dX12_undo_41 k212 (by rfl) (by decide) rfl ?_
      refine Ev.iconst (q := 43) dX12_undo_42 ki_0 rfl ?_
      refine istore_n_2 (q := 44) dX12_undo_43 rfl rfl rfl ?_
      obtain ⟨nn, rfl⟩ : ∃ nn : Nat, n = nn := ⟨n.toNat, by omega⟩
      obtain ⟨N, hN9⟩ : ∃ N : Nat, M0 212 96 = N := ⟨(M0 212 96).toNat, by omega⟩
      rw [hN9, w32_of (by omega) (by omega), show ((N : Int) - (nn : Int)) = ((N - nn : Nat) : Int) by omega]
      have hk9 := l_undo (Γ := Γ) (d := d) (m := m) (N - nn) (M0 212) (upg (M0 212) 96 ((N - nn : Nat) : Int)) (nn : Int) (by omega) (upg_eq _ _ _) (fun j hj => upg_ne _ _ hj) 36 0 (up M0 212 96 ((N - nn : Nat) : Int)) (by omega) (fun j => by rw [if_neg (by omega), up_row]) ((hF0.mono (fun a k q => sD_Q q)).up rfl)
      refine Em.imp ?_ hk9
      intro r m' h9
      refine ⟨fun _ => ⟨by rw [h9.1], by rw [h9.2.1]; congr 1, h9.2.2⟩, fun z => absurd ⟨by omega, by omega⟩ z⟩
    · skip
      refine Ev.bipush (q := 30) dX12_undo_28 kb_m3 rfl ?_
      refine rI dX12_undo_30 rfl ?_
      exact ⟨fun z => absurd z (by omega), fun _ => ⟨rfl, hF0⟩⟩
set_option maxRecDepth 4000 in
theorem p_X12_judge {Γ : Gm} {d : Nat} {m : Mem} (t what : Int) (hI : HI (m 212)) (h221 : ∀ i, i < 4 → 0 ≤ m 221 i ∧ m 221 i ≤ 40) : Ci Γ (d + 7) MX12_judge [rv 211, iv t, iv what] m (fun r m' => r = q_judge (m 212) (fun i => m 222 (40 * t.toNat + i)) (m 220 t.toNat) (m 221 t.toNat).toNat t what ∧ Fr sQ m m') := by
  refine Ci.of moX12_judge rfl rfl (fun hA hM => ?_)
  show Em Γ (d + 7) MX12_judge _ 0 [rv 211, iv t, iv what, uv, uv, uv, uv] [] m
  refine Ev.aload_n (q := 1) dX12_judge_0 rfl rfl ?_
  refine Ev.iconst (q := 2) dX12_judge_1 ki_0 rfl ?_
  refine pI (q := 5) dX12_judge_2 gfX12_1 k211 rfl rfl ?_
  obtain ⟨M0, hM0⟩ : ∃ M0, M0 = up m 211 0 0 := ⟨_, rfl⟩
  rw [← hM0]
  have hF0 : Fr sQ m M0 := by rw [hM0]; exact (Fr.rf _ _).up rfl
  have g0 : M0 212 = m 212 := hF0.row 212 (fun _ => rfl)
  rw [← g0] at hI ⊢
  have hF12 := hI.1
  have hL3 := hI.2.1
  have hP8 := hI.2.2.1
  have g20 : M0 220 = m 220 := hF0.row 220 (fun _ => rfl)
  have g21 : M0 221 = m 221 := hF0.row 221 (fun _ => rfl)
  have g22 : M0 222 = m 222 := hF0.row 222 (fun _ => rfl)
  rw [← g20, ← g21, ← g22]
  rw [← g21] at h221
  clear hM0
  refine Ev.iload_n (q := 6) dX12_judge_5 rfl rfl ?_
  refine Ev.i2l (q := 7) dX12_judge_6 rfl ?_
  refine Ev.lconst (q := 8) dX12_judge_7 kj_0 rfl ?_
  refine Ev.ldc2 (q := 11) dX12_judge_8 klX12_323 klvX12_323 rfl ?_
  refine cS3i (q := 14) (d' := d + 6) dX12_judge_11 mlX12_118 moX12_within msX12_within rfl rfl (Nat.le_refl _) rfl rfl rfl (p_X12_within _ _ _) (fun r1 m1 e1 => ?_)
  obtain ⟨rfl, e1⟩ := e1
  obtain rfl := e1.symm
  refine Ev.if_ne (tgt := 20) (q := 17) dX12_judge_14 (by decide) rfl (fun h2 => ?_) (fun h2 => ?_)
  · skip
    have hWW : 0 ≤ what ∧ what ≤ 3 := by split at h2 <;> omega
    refine Ev.aload_n (q := 21) dX12_judge_20 rfl rfl ?_
    refine Ev.iload_n (q := 22) dX12_judge_21 rfl rfl ?_
    refine cV1i (q := 25) (d' := d + 6) dX12_judge_22 mlX12_325 moX12_noTray mvX12_noTray k211 rfl rfl rfl (Nat.le_refl _) rfl rfl rfl (p_X12_noTray t) (fun r3 m3 e3 => ?_)
    obtain ⟨rfl, e3⟩ := e3
    obtain rfl := e3.symm
    refine istore_n_3 (q := 26) dX12_judge_25 rfl rfl rfl ?_
    refine Ev.iload_n (q := 27) dX12_judge_26 rfl rfl ?_
    refine Ev.if_eq (tgt := 32) (q := 30) dX12_judge_27 (by decide) rfl (fun h4 => ?_) (fun h4 => ?_)
    · skip
      have hT : 0 ≤ t ∧ t ≤ 3 := by split at h4 <;> omega
      have hs : ¬ M0 220 t.toNat = -1 := by rw [if_neg (by omega)] at h4; split at h4 <;> simp_all
      obtain ⟨tn, rfl⟩ : ∃ tn : Nat, t = tn := ⟨t.toNat, by omega⟩
      rw [Int.toNat_natCast] at *
      obtain ⟨N, hN⟩ : ∃ N : Nat, M0 221 tn = N := ⟨(M0 221 tn).toNat, by have := h221 tn (by omega); omega⟩
      have hN40 := h221 tn (by omega)
      refine Ev.aload_n (q := 33) dX12_judge_32 rfl rfl ?_
      refine cV0v (q := 36) (d' := d + 6) dX12_judge_33 mlX12_258 moX12_keeps mvX12_keeps k211 rfl rfl rfl (Nat.le_refl _) rfl rfl rfl (p_X12_keeps) (fun r5 m5 e5 => ?_)
      obtain ⟨hk36, hfrk⟩ := e5
      have hF1 : Fr sD m m5 := (hF0.mono (fun a k q => sD_Q q)).tr (hfrk.mono (fun a k q => sD_218 q))
      have g1 : m5 212 = M0 212 := hfrk.row 212 (fun _ => rfl)
      generalize m5 = M1 at *
      refine Ev.aload_n (q := 37) dX12_judge_36 rfl rfl ?_
      refine Ev.iload_n (q := 38) dX12_judge_37 rfl rfl ?_
      refine cV1i (q := 41) (d' := d + 6) dX12_judge_38 mlX12_328 moX12_tells mvX12_tells k211 rfl rfl rfl (Nat.le_refl _) rfl rfl rfl (p_X12_tells tn N (by omega) (by omega) (by rw [hfrk 221 tn rfl]; exact hN) (by rw [g1]; exact hI)) (fun r6 m6 e6 => ?_)
      obtain ⟨rfl, eg, e25, hfr2⟩ := e6
      have n22 : M1 222 = M0 222 := hfrk.row 222 (fun _ => rfl)
      rw [g1, n22] at eg e25 ⊢
      have hok := telN_ok (num := fun i => M0 222 (40 * tn + i)) N 0 (M0 212) hI
      obtain ⟨T, hTel⟩ : ∃ T, T = telN (fun i => M0 222 (40 * tn + i)) N 0 (M0 212) := ⟨_, rfl⟩
      rw [← hTel] at eg e25 hok ⊢
      have hF2 := hF1.tr (hfr2.mono (fun a k q => sD_Te q))
      have f18 : m6 218 = M1 218 := hfr2.row 218 (fun _ => rfl)
      generalize m6 = M2 at *
      refine istore_4 (q := 43) dX12_judge_41 rfl rfl rfl ?_
      refine Ev.aload_n (q := 44) dX12_judge_43 rfl rfl ?_
      refine cV0i (q := 47) (d' := d + 6) dX12_judge_44 mlX12_331 moX12_atHome mvX12_atHome k211 rfl rfl rfl (Nat.le_refl _) rfl rfl rfl (p_X12_atHome (by rw [eg, hok.2.1 3 (by omega)]; exact hP8)) (fun r7 m7 e7 => ?_)
      obtain ⟨rfl, e7⟩ := e7
      obtain rfl := e7.symm
      rw [eg]
      refine istore_5 (q := 49) dX12_judge_47 rfl rfl rfl ?_
      refine Ev.aload_n (q := 50) dX12_judge_49 rfl rfl ?_
      refine cV0i (q := 53) (d' := d + 6) dX12_judge_50 mlX12_334 moX12_lightsMany mvX12_lightsMany k211 rfl rfl rfl (Nat.le_refl _) rfl rfl rfl (p_X12_lightsMany (by rw [eg]; exact hok.1)) (fun r8 m8 e8 => ?_)
      obtain ⟨rfl, e8⟩ := e8
      obtain rfl := e8.symm
      rw [eg]
      refine istore_6 (q := 55) dX12_judge_53 rfl rfl rfl ?_
      refine Ev.aload_n (q := 56) dX12_judge_55 rfl rfl ?_
      refine cV0v (q := 59) (d' := d + 6) dX12_judge_56 mlX12_337 moX12_isAgain mvX12_isAgain k211 rfl rfl rfl (Nat.le_refl _) rfl rfl rfl (p_X12_isAgain) (fun r9 m9 e9 => ?_)
      obtain ⟨ea, hfr3⟩ := e9
      have hg3 : m9 212 = M0 212 := by
        funext j
        rw [ea j]
        by_cases hj : 60 ≤ j ∧ j < 96
        · rw [if_pos hj, f18, hk36 (j - 60) (by omega)]
          congr 1
          omega
        · rw [if_neg hj, eg]
          exact hok.2.1 j (by omega)
      have hF9 : Fr sQ m m9 := by
        intro a k q
        by_cases ha : a = 212
        · rw [ha, hg3]; exact hF0 212 k rfl
        · rw [hfr3 a k (by unfold s212; simp [ha]), hF2 a k (by
            unfold sD
            rw [q]
            unfold sQ at q
            simp [ha] at q ⊢
            intro h211
            have := q.1.1.1.1 h211
            omega)]
      have e25' : m9 211 25 = T.1 := by rw [hfr3 211 25 rfl]; exact e25
      generalize m9 = M3 at *
      refine Ev.iload_n (q := 60) dX12_judge_59 rfl rfl ?_
      refine Ev.if_ne (tgt := 79) (q := 63) dX12_judge_60 (by decide) rfl (fun h10 => ?_) (fun h10 => ?_)
      · skip
        refine Ev.iload_n (q := 80) dX12_judge_79 rfl rfl ?_
        refine Ev.iconst (q := 81) dX12_judge_80 ki_1 rfl ?_
        refine Ev.icmp_ne (tgt := 91) (q := 84) dX12_judge_81 (by decide) rfl (fun h11 => ?_) (fun h11 => ?_)
        · skip
          refine Ev.iload_n (q := 92) dX12_judge_91 rfl rfl ?_
          refine Ev.iconst (q := 93) dX12_judge_92 ki_2 rfl ?_
          refine Ev.icmp_ne (tgt := 101) (q := 96) dX12_judge_93 (by decide) rfl (fun h12 => ?_) (fun h12 => ?_)
          · skip
            refine Ev.iload (q := 103) dX12_judge_101 rfl rfl ?_
            refine rI dX12_judge_103 rfl ?_
            refine ⟨?_, hF9⟩
            unfold q_judge
            rw [if_pos ⟨hT, hWW⟩]
            rw [if_neg hs, hN, Int.toNat_natCast]
            unfold judV
            rw [← hTel]
            rw [if_neg (by omega), if_neg (by omega), if_neg (by omega)]
          · skip
            refine Ev.iload (q := 98) dX12_judge_96 rfl rfl ?_
            refine Ev.goto (q := 103) dX12_judge_98 (by decide) ?_
            refine rI dX12_judge_103 rfl ?_
            refine ⟨?_, hF9⟩
            unfold q_judge
            rw [if_pos ⟨hT, hWW⟩]
            rw [if_neg hs, hN, Int.toNat_natCast]
            unfold judV
            rw [← hTel]
            rw [if_neg (by omega), if_neg (by omega), if_pos (by omega)]
        · skip
          refine Ev.aload_n (q := 85) dX12_judge_84 rfl rfl ?_
          refine gI (q := 88) dX12_judge_85 gfX12_314 k211 rfl rfl ?_
          refine Ev.goto (q := 103) dX12_judge_88 (by decide) ?_
          refine rI dX12_judge_103 rfl ?_
          refine ⟨?_, hF9⟩
          unfold q_judge
          rw [if_pos ⟨hT, hWW⟩]
          rw [if_neg hs, hN, Int.toNat_natCast]
          unfold judV
          rw [← hTel]
          rw [if_neg (by omega), if_pos (by omega), e25']
      · skip
        refine Ev.aload_n (q := 64) dX12_judge_63 rfl rfl ?_
        refine gI (q := 67) dX12_judge_64 gfX12_314 k211 rfl rfl ?_
        rw [e25']
        refine Ev.if_ne (tgt := 74) (q := 70) dX12_judge_67 (by decide) rfl (fun h13 => ?_) (fun h13 => ?_)
        · skip
          refine Ev.iload (q := 76) dX12_judge_74 rfl rfl ?_
          refine Ev.goto (q := 103) dX12_judge_76 (by decide) ?_
          refine rI dX12_judge_103 rfl ?_
          refine ⟨?_, hF9⟩
          unfold q_judge
          rw [if_pos ⟨hT, hWW⟩]
          rw [if_neg hs, hN, Int.toNat_natCast]
          unfold judV
          rw [← hTel]
          rw [if_pos (by omega), if_neg (by assumption)]
        · skip
          refine Ev.iconst (q := 71) dX12_judge_70 ki_m1 rfl ?_
          refine Ev.goto (q := 103) dX12_judge_71 (by decide) ?_
          refine rI dX12_judge_103 rfl ?_
          refine ⟨?_, hF9⟩
          unfold q_judge
          rw [if_pos ⟨hT, hWW⟩]
          rw [if_neg hs, hN, Int.toNat_natCast]
          unfold judV
          rw [← hTel]
          rw [if_pos (by omega), if_pos (by assumption)]
    · skip
      refine Ev.iload_n (q := 31) dX12_judge_30 rfl rfl ?_
      refine rI dX12_judge_31 rfl ?_
      refine ⟨?_, hF0⟩
      unfold q_judge
      by_cases hT : 0 ≤ t ∧ t ≤ 3
      · rw [if_neg (show ¬ (t < 0 ∨ 3 < t) by omega)] at h4 ⊢
        have hs : M0 220 t.toNat = -1 := by split at h4 <;> simp_all
        rw [if_pos hs, if_pos ⟨hT, hWW⟩, if_pos hs]
      · rw [if_pos (show t < 0 ∨ 3 < t by omega), if_neg (fun z => hT z.1)]
  · skip
    have hWW : ¬ (0 ≤ what ∧ what ≤ 3) := by split at h2 <;> omega
    refine Ev.bipush (q := 19) dX12_judge_17 kb_m2 rfl ?_
    refine rI dX12_judge_19 rfl ?_
    refine ⟨?_, hF0⟩
    unfold q_judge
    rw [if_neg (fun z => hWW z.2)]
set_option maxRecDepth 4000 in
theorem p_X12_perform {Γ : Gm} {d : Nat} {m : Mem} (t : Int) (hI : HI (m 212)) (h96 : 0 ≤ m 212 96 ∧ m 212 96 ≤ 10) (h221 : ∀ i, i < 4 → 0 ≤ m 221 i ∧ m 221 i ≤ 40) : Ci Γ (d + 7) MX12_perform [rv 211, iv t] m (fun r m' => (((0 ≤ t ∧ t ≤ 3) ∧ ¬ m 220 t.toNat = -1) → r = ((telN (fun i => m 222 (40 * t.toNat + i)) (m 221 t.toNat).toNat 0 (m 212)).2.1 : Int) ∧ m' 212 = perG (m 212) (fun i => m 222 (40 * t.toNat + i)) (m 221 t.toNat).toNat ∧ Fr sD m m') ∧ (¬ ((0 ≤ t ∧ t ≤ 3) ∧ ¬ m 220 t.toNat = -1) → r = (if 0 ≤ t ∧ t ≤ 3 then -6 else -2) ∧ Fr sQ m m')) := by
  refine Ci.of moX12_perform rfl rfl (fun hA hM => ?_)
  show Em Γ (d + 7) MX12_perform _ 0 [rv 211, iv t, uv, uv] [] m
  refine Ev.aload_n (q := 1) dX12_perform_0 rfl rfl ?_
  refine Ev.iconst (q := 2) dX12_perform_1 ki_0 rfl ?_
  refine pI (q := 5) dX12_perform_2 gfX12_1 k211 rfl rfl ?_
  obtain ⟨M0, hM0⟩ : ∃ M0, M0 = up m 211 0 0 := ⟨_, rfl⟩
  rw [← hM0]
  have hF0 : Fr sQ m M0 := by rw [hM0]; exact (Fr.rf _ _).up rfl
  have g0 : M0 212 = m 212 := hF0.row 212 (fun _ => rfl)
  rw [← g0] at hI ⊢
  have hF12 := hI.1
  have hL3 := hI.2.1
  have hP8 := hI.2.2.1
  rw [← g0] at h96
  have g20 : M0 220 = m 220 := hF0.row 220 (fun _ => rfl)
  have g21 : M0 221 = m 221 := hF0.row 221 (fun _ => rfl)
  have g22 : M0 222 = m 222 := hF0.row 222 (fun _ => rfl)
  rw [← g20, ← g21, ← g22]
  rw [← g21] at h221
  clear hM0
  refine Ev.aload_n (q := 6) dX12_perform_5 rfl rfl ?_
  refine Ev.iload_n (q := 7) dX12_perform_6 rfl rfl ?_
  refine cV1i (q := 10) (d' := d + 6) dX12_perform_7 mlX12_325 moX12_noTray mvX12_noTray k211 rfl rfl rfl (Nat.le_refl _) rfl rfl rfl (p_X12_noTray t) (fun r1 m1 e1 => ?_)
  obtain ⟨rfl, e1⟩ := e1
  obtain rfl := e1.symm
  refine istore_n_2 (q := 11) dX12_perform_10 rfl rfl rfl ?_
  refine Ev.iload_n (q := 12) dX12_perform_11 rfl rfl ?_
  refine Ev.if_eq (tgt := 17) (q := 15) dX12_perform_12 (by decide) rfl (fun h2 => ?_) (fun h2 => ?_)
  · skip
    have hT : 0 ≤ t ∧ t ≤ 3 := by split at h2 <;> omega
    have hs : ¬ M0 220 t.toNat = -1 := by rw [if_neg (by omega)] at h2; split at h2 <;> simp_all
    obtain ⟨tn, rfl⟩ : ∃ tn : Nat, t = tn := ⟨t.toNat, by omega⟩
    rw [Int.toNat_natCast] at *
    obtain ⟨N, hN⟩ : ∃ N : Nat, M0 221 tn = N := ⟨(M0 221 tn).toNat, by have := h221 tn (by omega); omega⟩
    have hN40 := h221 tn (by omega)
    refine Ev.aload_n (q := 18) dX12_perform_17 rfl rfl ?_
    refine cV0v (q := 21) (d' := d + 6) dX12_perform_18 mlX12_258 moX12_keeps mvX12_keeps k211 rfl rfl rfl (Nat.le_refl _) rfl rfl rfl (p_X12_keeps) (fun r3 m3 e3 => ?_)
    obtain ⟨hk36, hfrk⟩ := e3
    have hF1 : Fr sD m m3 := (hF0.mono (fun a k q => sD_Q q)).tr (hfrk.mono (fun a k q => sD_218 q))
    have g1 : m3 212 = M0 212 := hfrk.row 212 (fun _ => rfl)
    generalize m3 = M1 at *
    refine Ev.aload_n (q := 22) dX12_perform_21 rfl rfl ?_
    refine Ev.iload_n (q := 23) dX12_perform_22 rfl rfl ?_
    refine cV1i (q := 26) (d' := d + 6) dX12_perform_23 mlX12_328 moX12_tells mvX12_tells k211 rfl rfl rfl (Nat.le_refl _) rfl rfl rfl (p_X12_tells tn N (by omega) (by omega) (by rw [hfrk 221 tn rfl]; exact hN) (by rw [g1]; exact hI)) (fun r4 m4 e4 => ?_)
    obtain ⟨rfl, eg, e25, hfr2⟩ := e4
    have n22 : M1 222 = M0 222 := hfrk.row 222 (fun _ => rfl)
    rw [g1, n22] at eg e25 ⊢
    have hok := telN_ok (num := fun i => M0 222 (40 * tn + i)) N 0 (M0 212) hI
    obtain ⟨T, hTel⟩ : ∃ T, T = telN (fun i => M0 222 (40 * tn + i)) N 0 (M0 212) := ⟨_, rfl⟩
    rw [← hTel] at eg e25 hok ⊢
    have hF2 := hF1.tr (hfr2.mono (fun a k q => sD_Te q))
    have f18 : m4 218 = M1 218 := hfr2.row 218 (fun _ => rfl)
    generalize m4 = M2 at *
    refine istore_n_3 (q := 27) dX12_perform_26 rfl rfl rfl ?_
    refine Ev.iload_n (q := 28) dX12_perform_27 rfl rfl ?_
    refine Ev.if_le (tgt := 35) (q := 31) dX12_perform_28 (by decide) rfl (fun h5 => ?_) (fun h5 => ?_)
    · skip
      refine Ev.iload_n (q := 36) dX12_perform_35 rfl rfl ?_
      refine rI dX12_perform_36 rfl ?_
      refine ⟨fun _ => ?_, fun z => absurd ⟨hT, hs⟩ z⟩
      rw [hN, Int.toNat_natCast]
      unfold perG
      rw [← hTel, if_neg (by omega)]
      exact ⟨rfl, eg, hF2⟩
    · skip
      refine Ev.aload_n (q := 32) dX12_perform_31 rfl rfl ?_
      refine cV0v (q := 35) (d' := d + 6) dX12_perform_32 mlX12_261 moX12_notes mvX12_notes k211 rfl rfl rfl (Nat.le_refl _) rfl rfl rfl (p_X12_notes (by rw [eg, hok.2.1 96 (by omega)]; exact h96)) (fun r6 m6 e6 => ?_)
      obtain ⟨eg3, hfrn⟩ := e6
      have hF3 := hF2.tr (hfrn.mono (fun a k q => sD_212 q))
      generalize m6 = M3 at *
      rw [eg, notG_congr (w' := wasG (M0 212)) (fun k hk => by rw [f18]; exact hk36 k hk)] at eg3
      refine Ev.iload_n (q := 36) dX12_perform_35 rfl rfl ?_
      refine rI dX12_perform_36 rfl ?_
      refine ⟨fun _ => ?_, fun z => absurd ⟨hT, hs⟩ z⟩
      rw [hN, Int.toNat_natCast]
      unfold perG
      rw [← hTel, if_pos (by omega)]
      exact ⟨rfl, eg3, hF3⟩
  · skip
    refine Ev.iload_n (q := 16) dX12_perform_15 rfl rfl ?_
    refine rI dX12_perform_16 rfl ?_
    refine ⟨fun z => ?_, fun _ => ⟨?_, hF0⟩⟩
    · exfalso
      rw [if_neg (by omega), if_neg z.2] at h2
      exact h2 rfl
    · by_cases hT : 0 ≤ t ∧ t ≤ 3
      · rw [if_neg (show ¬ (t < 0 ∨ 3 < t) by omega)] at h2 ⊢
        have hs : M0 220 t.toNat = -1 := by split at h2 <;> simp_all
        rw [if_pos hs, if_pos hT]
      · rw [if_pos (show t < 0 ∨ 3 < t by omega), if_neg hT]
set_option maxRecDepth 4000 in
theorem l_evenings {Γ : Gm} {d : Nat} {m M0 : Mem} {Po : Int → Mem → Prop} (L P F N : Nat) (x1 : Int) (w18 : Nat → Int) (R : Nat × (Nat → Int)) (hL : M0 212 2 = L) (hP : M0 212 3 = P) (hF : M0 212 1 = F) (hL3 : 0 < L ∧ L ≤ 3) (hP8 : 0 < P ∧ P ≤ 8) (hF12 : 0 < F ∧ F ≤ 12) (hN : N ≤ 40)
    (kont : ∀ (c : Nat) (m9 : Mem) (v5 : Vl), Fr sD m m9 → m9 218 = w18 → HI (m9 212) → Kp (M0 212) (m9 212) → (c, m9 212) = R → c ≤ 40 → Em Γ (d + 6) MX12_evenings Po 95 [rv 211, iv x1, iv N, iv c, iv N, v5] [] m9) :
    ∀ (n k : Nat) (x : Int) (c : Nat) (v5 : Vl) (m9 : Mem), k + n = N → Fr sD m m9 → m9 218 = w18 → HI (m9 212) → Kp (M0 212) (m9 212) → m9 211 26 = x → eveN L P F n x c (m9 212) = R → c ≤ k → Em Γ (d + 6) MX12_evenings Po 55 [rv 211, iv x1, iv N, iv c, iv k, v5] [] m9 := by
  intro n
  induction n with
  | zero =>
    intro k x c v5 m9 hk hFr h18 hI9 hKp h26 hR hck
    obtain rfl : N = k := by omega
    refine Ev.iload (q := 57) dX12_evenings_55 rfl rfl ?_
    refine Ev.iload_n (q := 58) dX12_evenings_57 rfl rfl ?_
    refine Ev.icmp_ge (tgt := 95) (q := 61) dX12_evenings_58 (by decide) rfl (fun h1 => ?_) (fun h1 => ?_)
    · skip
      exact kont c m9 v5 hFr h18 hI9 hKp (by rw [← hR]; rfl) (by omega)
    · skip
      omega
  | succ n ih =>
    intro k x c v5 m9 hk hFr h18 hI9 hKp h26 hR hck
    refine Ev.iload (q := 57) dX12_evenings_55 rfl rfl ?_
    refine Ev.iload_n (q := 58) dX12_evenings_57 rfl rfl ?_
    refine Ev.icmp_ge (tgt := 95) (q := 61) dX12_evenings_58 (by decide) rfl (fun h1 => ?_) (fun h1 => ?_)
    · skip
      omega
    · skip
      refine Ev.aload_n (q := 62) dX12_evenings_61 rfl rfl ?_
      refine cV0i (q := 65) (d' := d + 5) dX12_evenings_62 mlX12_349 moX12_drawn mvX12_drawn k211 rfl rfl rfl (Nat.le_refl _) rfl rfl rfl (p_X12_drawn L P F (by rw [hKp 2 (by omega)]; exact hL) (by rw [hKp 3 (by omega)]; exact hP) (by rw [hKp 1 (by omega)]; exact hF) hL3 hP8 hF12) (fun r2 m2 e2 => ?_)
      obtain ⟨rfl, rfl⟩ := e2
      rw [h26]
      refine istore_5 (q := 67) dX12_evenings_65 rfl rfl rfl ?_
      refine Ev.aload_n (q := 68) dX12_evenings_67 rfl rfl ?_
      refine Ev.iload (q := 70) dX12_evenings_68 rfl rfl ?_
      refine Ev.i2l (q := 71) dX12_evenings_70 rfl ?_
      refine cV1i (q := 74) (d' := d + 5) dX12_evenings_71 mlX12_317 moX12_whyNot mvX12_whyNot k211 rfl rfl rfl (Nat.le_refl _) rfl rfl rfl (p_X12_whyNot _ (by rw [up_na _ _ (by decide)]; exact hI9)) (fun r3 m3 e3 => ?_)
      obtain ⟨rfl, e3⟩ := e3
      obtain rfl := e3.symm
      rw [up_na _ _ (by decide)]
      refine Ev.if_eq (tgt := 80) (q := 77) dX12_evenings_74 (by decide) rfl (fun h4 => ?_) (fun h4 => ?_)
      · skip
        have hw9 : whyN (m9 212) ((numD (drnV L P F x).2.1 (drnV L P F x).2.2.1 (drnV L P F x).2.2.2) : Nat) = 0 := h4
        refine Ev.aload_n (q := 81) dX12_evenings_80 rfl rfl ?_
        refine Ev.iload (q := 83) dX12_evenings_81 rfl rfl ?_
        refine cV1v (q := 86) (d' := d + 5) dX12_evenings_83 mlX12_320 moX12_does mvX12_does k211 rfl rfl rfl (Nat.le_refl _) rfl rfl rfl (p_X12_does (numD (drnV L P F x).2.1 (drnV L P F x).2.2.1 (drnV L P F x).2.2.2) (by rw [up_na _ _ (by decide)]; exact hI9) (by rw [up_na _ _ (by decide)]; exact hw9)) (fun r5 m5 e5 => ?_)
        obtain ⟨eg, hfr⟩ := e5
        rw [up_na _ _ (by decide)] at eg
        have hF1 := (hFr.up (x := (drnV L P F x).1) (show sD 211 26 = true from rfl)).tr (hfr.mono (fun a k q => sD_Rd q))
        have e26 : m5 211 26 = (drnV L P F x).1 := by rw [hfr 211 26 rfl]; exact up_eq _ _ _ _
        have e18 : m5 218 = w18 := by rw [hfr.row 218 (fun _ => rfl), up_na _ _ (by decide)]; exact h18
        generalize m5 = M1 at *
        refine iinc_3 (q := 89) dX12_evenings_86 rfl rfl rfl ?_
        refine iinc_4 (q := 92) dX12_evenings_89 rfl rfl rfl ?_
        refine Ev.goto (q := 55) dX12_evenings_92 (by decide) ?_
        rw [w32_of (z := (k : Int) + 1) (by omega) (by omega), w32_of (z := (c : Int) + 1) (by omega) (by omega)]
        have hn9 := HI_N hI9 hw9
        refine ih (k + 1) (drnV L P F x).1 (c + 1) _ _ (by omega) hF1 e18 (by rw [eg]; exact hn9.1) (by rw [eg]; exact hKp.tr hn9.2) e26 ?_ (by omega)
        rw [← hR, eg]
        conv => rhs; unfold eveN; rw [if_pos hw9]
      · skip
        have hw9 : ¬ whyN (m9 212) ((numD (drnV L P F x).2.1 (drnV L P F x).2.2.1 (drnV L P F x).2.2.2) : Nat) = 0 := h4
        refine Ev.goto (q := 89) dX12_evenings_77 (by decide) ?_
        refine iinc_4 (q := 92) dX12_evenings_89 rfl rfl rfl ?_
        refine Ev.goto (q := 55) dX12_evenings_92 (by decide) ?_
        rw [w32_of (z := (k : Int) + 1) (by omega) (by omega)]
        refine ih (k + 1) (drnV L P F x).1 c _ _ (by omega) (hFr.up rfl) (by rw [up_na _ _ (by decide)]; exact h18) (by rw [up_na _ _ (by decide)]; exact hI9) (by rw [up_na _ _ (by decide)]; exact hKp) (up_eq _ _ _ _) ?_ (by omega)
        rw [← hR, up_na _ _ (by decide)]
        conv => rhs; unfold eveN; rw [if_neg hw9]
set_option maxRecDepth 4000 in
theorem p_X12_evenings {Γ : Gm} {d : Nat} {m : Mem} (x n : Int) (hI : HI (m 212)) (h96 : 0 ≤ m 212 96 ∧ m 212 96 ≤ 10) : Ci Γ (d + 6) MX12_evenings [rv 211, iv x, iv n] m (fun r m' => (((1 ≤ n ∧ n ≤ 40) ∧ ¬ m 212 2 = 0 ∧ ¬ m 212 3 = 0) → r = ((eveV (m 212) x n.toNat).1 : Int) ∧ m' 212 = (if 0 < (eveV (m 212) x n.toNat).1 then notG (eveV (m 212) x n.toNat).2 (wasG (m 212)) else (eveV (m 212) x n.toNat).2) ∧ Fr sD m m') ∧ (¬ ((1 ≤ n ∧ n ≤ 40) ∧ ¬ m 212 2 = 0 ∧ ¬ m 212 3 = 0) → r = (if 1 ≤ n ∧ n ≤ 40 then -5 else -3) ∧ Fr sQ m m')) := by
  refine Ci.of moX12_evenings rfl rfl (fun hA hM => ?_)
  show Em Γ (d + 6) MX12_evenings _ 0 [rv 211, iv x, iv n, uv, uv, uv] [] m
  refine Ev.aload_n (q := 1) dX12_evenings_0 rfl rfl ?_
  refine Ev.iconst (q := 2) dX12_evenings_1 ki_0 rfl ?_
  refine pI (q := 5) dX12_evenings_2 gfX12_1 k211 rfl rfl ?_
  obtain ⟨M0, hM0⟩ : ∃ M0, M0 = up m 211 0 0 := ⟨_, rfl⟩
  rw [← hM0]
  have hF0 : Fr sQ m M0 := by rw [hM0]; exact (Fr.rf _ _).up rfl
  have g0 : M0 212 = m 212 := hF0.row 212 (fun _ => rfl)
  rw [← g0] at hI ⊢
  have hF12 := hI.1
  have hL3 := hI.2.1
  have hP8 := hI.2.2.1
  rw [← g0] at h96
  clear hM0
  refine Ev.iload_n (q := 6) dX12_evenings_5 rfl rfl ?_
  refine Ev.i2l (q := 7) dX12_evenings_6 rfl ?_
  refine Ev.lconst (q := 8) dX12_evenings_7 kj_1 rfl ?_
  refine Ev.ldc2 (q := 11) dX12_evenings_8 klX12_347 klvX12_347 rfl ?_
  refine cS3i (q := 14) (d' := d + 5) dX12_evenings_11 mlX12_118 moX12_within msX12_within rfl rfl (Nat.le_refl _) rfl rfl rfl (p_X12_within _ _ _) (fun r1 m1 e1 => ?_)
  obtain ⟨rfl, e1⟩ := e1
  obtain rfl := e1.symm
  refine Ev.if_ne (tgt := 20) (q := 17) dX12_evenings_14 (by decide) rfl (fun h2 => ?_) (fun h2 => ?_)
  · skip
    have hNN : 1 ≤ n ∧ n ≤ 40 := by split at h2 <;> omega
    obtain ⟨nn, rfl⟩ : ∃ nn : Nat, n = nn := ⟨n.toNat, by omega⟩
    refine Ev.aload_n (q := 21) dX12_evenings_20 rfl rfl ?_
    refine gR (q := 24) dX12_evenings_21 gfX12_13 k211 r211_1 rfl rfl ?_
    refine Ev.iconst (q := 25) dX12_evenings_24 ki_2 rfl ?_
    refine aI (q := 26) (k := 2) dX12_evenings_25 k212 (by rfl) (by decide) rfl ?_
    refine Ev.if_eq (tgt := 38) (q := 29) dX12_evenings_26 (by decide) rfl (fun h3 => ?_) (fun h3 => ?_)
    · skip
      have h2' : M0 212 2 = 0 := h3
      refine Ev.bipush (q := 40) dX12_evenings_38 kb_m5 rfl ?_
      refine rI dX12_evenings_40 rfl ?_
      exact ⟨fun z => absurd h2' z.2.1, fun _ => ⟨by rw [if_pos hNN], hF0⟩⟩
    · skip
      have h2' : ¬ M0 212 2 = 0 := h3
      refine Ev.aload_n (q := 30) dX12_evenings_29 rfl rfl ?_
      refine gR (q := 33) dX12_evenings_30 gfX12_13 k211 r211_1 rfl rfl ?_
      refine Ev.iconst (q := 34) dX12_evenings_33 ki_3 rfl ?_
      refine aI (q := 35) (k := 3) dX12_evenings_34 k212 (by rfl) (by decide) rfl ?_
      refine Ev.if_ne (tgt := 41) (q := 38) dX12_evenings_35 (by decide) rfl (fun h4 => ?_) (fun h4 => ?_)
      · skip
        have h3' : ¬ M0 212 3 = 0 := h4
        refine Ev.aload_n (q := 42) dX12_evenings_41 rfl rfl ?_
        refine cV0v (q := 45) (d' := d + 5) dX12_evenings_42 mlX12_258 moX12_keeps mvX12_keeps k211 rfl rfl rfl (Nat.le_refl _) rfl rfl rfl (p_X12_keeps) (fun r5 m5 e5 => ?_)
        obtain ⟨hk36, hfrk⟩ := e5
        have hF1 : Fr sD m m5 := (hF0.mono (fun a k q => sD_Q q)).tr (hfrk.mono (fun a k q => sD_218 q))
        have g1 : m5 212 = M0 212 := hfrk.row 212 (fun _ => rfl)
        generalize m5 = M1 at *
        refine Ev.aload_n (q := 46) dX12_evenings_45 rfl rfl ?_
        refine Ev.iload_n (q := 47) dX12_evenings_46 rfl rfl ?_
        refine pI (q := 50) dX12_evenings_47 gfX12_341 k211 rfl rfl ?_
        refine Ev.iconst (q := 51) dX12_evenings_50 ki_0 rfl ?_
        refine istore_n_3 (q := 52) dX12_evenings_51 rfl rfl rfl ?_
        refine Ev.iconst (q := 53) dX12_evenings_52 ki_0 rfl ?_
        refine istore_4 (q := 55) dX12_evenings_53 rfl rfl rfl ?_
        refine l_evenings (Γ := Γ) (d := d) (m := m) (M0 := M0) (M0 212 2).toNat (M0 212 3).toNat (M0 212 1).toNat nn x (M1 218) (eveV (M0 212) x nn) (by omega) (by omega) (by omega) (by omega) (by omega) (by omega) (by omega) (fun c m9 v5 hFr9 h189 hI9 hKp9 hR9 hc9 => ?_) nn 0 x 0 uv (up M1 211 26 x) (by omega) (hF1.up rfl) (up_na _ _ (by decide)) (by rw [up_na _ _ (by decide), g1]; exact hI) (by rw [up_na _ _ (by decide), g1]; exact Kp.rf _) (up_eq _ _ _ _) (by rw [up_na _ _ (by decide), g1]; rfl) (by omega)
        refine Ev.iload_n (q := 96) dX12_evenings_95 rfl rfl ?_
        refine Ev.if_le (tgt := 103) (q := 99) dX12_evenings_96 (by decide) rfl (fun h1 => ?_) (fun h1 => ?_)
        · skip
          refine Ev.iload_n (q := 104) dX12_evenings_103 rfl rfl ?_
          refine rI dX12_evenings_104 rfl ?_
          refine ⟨fun _ => ?_, fun z => absurd ⟨hNN, h2', h3'⟩ z⟩
          simp only [Int.toNat_natCast]
          rw [← hR9, if_neg (show ¬ 0 < c by omega)]
          exact ⟨rfl, rfl, hFr9⟩
        · skip
          refine Ev.aload_n (q := 100) dX12_evenings_99 rfl rfl ?_
          refine cV0v (q := 103) (d' := d + 5) dX12_evenings_100 mlX12_261 moX12_notes mvX12_notes k211 rfl rfl rfl (Nat.le_refl _) rfl rfl rfl (p_X12_notes (by rw [hKp9 96 (by omega)]; exact h96)) (fun r2 m2 e2 => ?_)
          obtain ⟨eg3, hfrn⟩ := e2
          have hF3 := hFr9.tr (hfrn.mono (fun a k q => sD_212 q))
          generalize m2 = M3 at *
          rw [notG_congr (w' := wasG (M0 212)) (fun k hk => by rw [h189]; exact hk36 k hk)] at eg3
          refine Ev.iload_n (q := 104) dX12_evenings_103 rfl rfl ?_
          refine rI dX12_evenings_104 rfl ?_
          refine ⟨fun _ => ?_, fun z => absurd ⟨hNN, h2', h3'⟩ z⟩
          simp only [Int.toNat_natCast]
          rw [← hR9, if_pos (show 0 < c by omega)]
          exact ⟨rfl, eg3, hF3⟩
      · skip
        have h3' : M0 212 3 = 0 := h4
        refine Ev.bipush (q := 40) dX12_evenings_38 kb_m5 rfl ?_
        refine rI dX12_evenings_40 rfl ?_
        exact ⟨fun z => absurd h3' z.2.2, fun _ => ⟨by rw [if_pos hNN], hF0⟩⟩
  · skip
    have hNN : ¬ (1 ≤ n ∧ n ≤ 40) := by split at h2 <;> omega
    refine Ev.bipush (q := 19) dX12_evenings_17 kb_m3 rfl ?_
    refine rI dX12_evenings_19 rfl ?_
    exact ⟨fun z => absurd z.1 hNN, fun _ => ⟨by rw [if_neg hNN], hF0⟩⟩
def sIm (a k : Nat) : Bool := sQ a k || a == 212 || a == 213
theorem sIm_Q {a k : Nat} (h : sIm a k = false) : sQ a k = false := by unfold sIm at h; simp at h; exact h.1.1
theorem sIm_D {a k : Nat} (h : sIm a k = false) : sD a k = false := by
  unfold sD
  rw [sIm_Q h]
  unfold sIm sQ at h
  simp at h ⊢
  exact ⟨h.1.2, fun q => by have := h.1.1.1.1.1.1 q; omega⟩
set_option maxRecDepth 4000 in
theorem l_image {Γ : Gm} {d : Nat} {m : Mem} (i : Nat) (g : Nat → Int) (hi : i < 2) : ∀ (q k : Nat) (M : Mem), k + q = 1358 → (∀ j, M 212 j = if 1358 * (i + 1) ≤ j ∧ j < 1358 * (i + 1) + k then g (j - 1358 * (i + 1)) else g j) → Fr sD m M → Em Γ (d + 1) MX12_image (fun r m' => r = 0 ∧ m' 212 = imgG g i ∧ m' 213 = upg (m 213) i 1 ∧ Fr sIm m m') 20 [rv 211, iv i, iv k] [] M := by
  intro q
  induction q with
  | zero =>
    intro k M hk hv hFr
    obtain rfl : k = 1358 := by omega
    refine Ev.iload_n (q := 21) dX12_image_20 rfl rfl ?_
    refine Ev.sipush (q := 24) dX12_image_21 kh_1358 rfl ?_
    refine Ev.icmp_ge (tgt := 53) (q := 27) dX12_image_24 (by decide) rfl (fun h1 => ?_) (fun h1 => ?_)
    · skip
      refine Ev.aload_n (q := 54) dX12_image_53 rfl rfl ?_
      refine gR (q := 57) dX12_image_54 gfX12_17 k211 r211_2 rfl rfl ?_
      refine Ev.iload_n (q := 58) dX12_image_57 rfl rfl ?_
      refine Ev.iconst (q := 59) dX12_image_58 ki_1 rfl ?_
      refine sZ (q := 60) (k := i) dX12_image_59 k213 (by first | rfl | omega | (simp (disch := omega) only [w32_of]; omega)) (by omega) (by decide) rfl ?_
      refine Ev.iconst (q := 61) dX12_image_60 ki_0 rfl ?_
      refine rI dX12_image_61 rfl ?_
      refine ⟨rfl, ?_, ?_, (hFr.mono (fun a k q => sIm_D q)).up rfl⟩
      · rw [up_na _ _ (by decide)]; funext j; rw [hv j]; rfl
      · rw [up_row, show M 213 = m 213 from hFr.row 213 (fun _ => rfl)]
    · skip
      omega
  | succ q ih =>
    intro k M hk hv hFr
    refine Ev.iload_n (q := 21) dX12_image_20 rfl rfl ?_
    refine Ev.sipush (q := 24) dX12_image_21 kh_1358 rfl ?_
    refine Ev.icmp_ge (tgt := 53) (q := 27) dX12_image_24 (by decide) rfl (fun h1 => ?_) (fun h1 => ?_)
    · skip
      omega
    · skip
      refine Ev.aload_n (q := 28) dX12_image_27 rfl rfl ?_
      refine gR (q := 31) dX12_image_28 gfX12_13 k211 r211_1 rfl rfl ?_
      refine Ev.sipush (q := 34) dX12_image_31 kh_1358 rfl ?_
      refine Ev.iload_n (q := 35) dX12_image_34 rfl rfl ?_
      refine Ev.iconst (q := 36) dX12_image_35 ki_1 rfl ?_
      refine Ev.iadd (q := 37) dX12_image_36 rfl ?_
      refine Ev.imul (q := 38) dX12_image_37 rfl ?_
      refine Ev.iload_n (q := 39) dX12_image_38 rfl rfl ?_
      refine Ev.iadd (q := 40) dX12_image_39 rfl ?_
      refine Ev.aload_n (q := 41) dX12_image_40 rfl rfl ?_
      refine gR (q := 44) dX12_image_41 gfX12_13 k211 r211_1 rfl rfl ?_
      refine Ev.iload_n (q := 45) dX12_image_44 rfl rfl ?_
      refine aI (q := 46) (k := k) dX12_image_45 k212 (by first | rfl | omega | (simp (disch := omega) only [w32_of]; omega)) (by omega) rfl ?_
      refine sI (q := 47) (k := 1358 * (i + 1) + k) dX12_image_46 k212 (by first | rfl | omega | (simp (disch := omega) only [w32_of]; omega)) (by omega) rfl ?_
      refine iinc_2 (q := 50) dX12_image_47 rfl rfl rfl ?_
      refine Ev.goto (q := 20) dX12_image_50 (by decide) ?_
      rw [w32_of (z := (k : Int) + 1) (by omega) (by omega)]
      refine ih (k + 1) _ (by omega) (fun j => ?_) (hFr.up rfl)
      by_cases hj : j = 1358 * (i + 1) + k
      · rw [hj, up_eq, if_pos (by omega), hv, if_neg (by omega), show 1358 * (i + 1) + k - 1358 * (i + 1) = k by omega]
      · rw [up_k _ _ hj, hv j]
        by_cases hq : 1358 * (i + 1) ≤ j ∧ j < 1358 * (i + 1) + k
        · rw [if_pos hq, if_pos (by omega)]
        · rw [if_neg hq, if_neg (by omega)]
set_option maxRecDepth 4000 in
theorem l_restore {Γ : Gm} {d : Nat} {m : Mem} (i : Nat) (g : Nat → Int) (hi : i < 2) : ∀ (q k : Nat) (M : Mem), k + q = 1358 → (∀ j, M 212 j = if j < k then g (1358 * (i + 1) + j) else g j) → Fr sD m M → Em Γ (d + 1) MX12_restore (fun r m' => r = 0 ∧ m' 212 = resG g i ∧ Fr sIm m m') 32 [rv 211, iv i, iv k] [] M := by
  intro q
  induction q with
  | zero =>
    intro k M hk hv hFr
    obtain rfl : k = 1358 := by omega
    refine Ev.iload_n (q := 33) dX12_restore_32 rfl rfl ?_
    refine Ev.sipush (q := 36) dX12_restore_33 kh_1358 rfl ?_
    refine Ev.icmp_ge (tgt := 65) (q := 39) dX12_restore_36 (by decide) rfl (fun h1 => ?_) (fun h1 => ?_)
    · skip
      refine Ev.aload_n (q := 66) dX12_restore_65 rfl rfl ?_
      refine gR (q := 69) dX12_restore_66 gfX12_13 k211 r211_1 rfl rfl ?_
      refine Ev.bipush (q := 71) dX12_restore_69 kb_96 rfl ?_
      refine Ev.iconst (q := 72) dX12_restore_71 ki_0 rfl ?_
      refine sI (q := 73) (k := 96) dX12_restore_72 k212 (by rfl) (by decide) rfl ?_
      refine Ev.iconst (q := 74) dX12_restore_73 ki_0 rfl ?_
      refine rI dX12_restore_74 rfl ?_
      refine ⟨rfl, ?_, (hFr.mono (fun a k q => sIm_D q)).up rfl⟩
      rw [up_row]; funext j; unfold upg resG; by_cases h1 : j = 96
      · rw [if_pos h1, if_pos h1]
      · rw [if_neg h1, if_neg h1, hv j]
    · skip
      omega
  | succ q ih =>
    intro k M hk hv hFr
    refine Ev.iload_n (q := 33) dX12_restore_32 rfl rfl ?_
    refine Ev.sipush (q := 36) dX12_restore_33 kh_1358 rfl ?_
    refine Ev.icmp_ge (tgt := 65) (q := 39) dX12_restore_36 (by decide) rfl (fun h1 => ?_) (fun h1 => ?_)
    · skip
      omega
    · skip
      refine Ev.aload_n (q := 40) dX12_restore_39 rfl rfl ?_
      refine gR (q := 43) dX12_restore_40 gfX12_13 k211 r211_1 rfl rfl ?_
      refine Ev.iload_n (q := 44) dX12_restore_43 rfl rfl ?_
      refine Ev.aload_n (q := 45) dX12_restore_44 rfl rfl ?_
      refine gR (q := 48) dX12_restore_45 gfX12_13 k211 r211_1 rfl rfl ?_
      refine Ev.sipush (q := 51) dX12_restore_48 kh_1358 rfl ?_
      refine Ev.iload_n (q := 52) dX12_restore_51 rfl rfl ?_
      refine Ev.iconst (q := 53) dX12_restore_52 ki_1 rfl ?_
      refine Ev.iadd (q := 54) dX12_restore_53 rfl ?_
      refine Ev.imul (q := 55) dX12_restore_54 rfl ?_
      refine Ev.iload_n (q := 56) dX12_restore_55 rfl rfl ?_
      refine Ev.iadd (q := 57) dX12_restore_56 rfl ?_
      refine aI (q := 58) (k := 1358 * (i + 1) + k) dX12_restore_57 k212 (by first | rfl | omega | (simp (disch := omega) only [w32_of]; omega)) (by omega) rfl ?_
      refine sI (q := 59) (k := k) dX12_restore_58 k212 (by first | rfl | omega | (simp (disch := omega) only [w32_of]; omega)) (by omega) rfl ?_
      refine iinc_2 (q := 62) dX12_restore_59 rfl rfl rfl ?_
      refine Ev.goto (q := 32) dX12_restore_62 (by decide) ?_
      rw [w32_of (z := (k : Int) + 1) (by omega) (by omega)]
      refine ih (k + 1) _ (by omega) (fun j => ?_) (hFr.up rfl)
      by_cases hj : j = k
      · rw [hj, up_eq, if_pos (by omega), hv, if_neg (by omega)]
      · rw [up_k _ _ hj, hv j]
        by_cases hq : j < k
        · rw [if_pos hq, if_pos (by omega)]
        · rw [if_neg hq, if_neg (by omega)]
