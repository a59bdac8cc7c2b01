/-! ===== the reference: trays ===== -/
theorem Em.imp {Γ : Gm} {d : Nat} {M : Mth} {P P' : Int → Mem → Prop} {pc : Nat} {L st : List Vl} {m : Mem} (h : ∀ r m', P' r m' → P r m') (k : Em Γ d M P' pc L st m) : Em Γ d M P pc L st m := Ev.imp (fun v g m' q => ⟨q.1, h _ _ q.2⟩) k
def sTr (a k : Nat) : Bool := sQ a k || a == 220 || a == 221 || a == 222
theorem sTr_Q {a k : Nat} (h : sTr a k = false) : sQ a k = false := by unfold sTr at h; simp at h; exact h.1.1.1
def okNum (t s n : Int) : Prop := (0 ≤ t ∧ t ≤ 3) ∧ (0 ≤ s ∧ s ≤ 3) ∧ (0 ≤ n ∧ n ≤ 40)
def clrN (w : Nat → Int) (b n : Nat) : Nat → Int := fun j => if b ≤ j ∧ j < b + n then 0 else w j
def lsN (sp : Int) (st : Nat → Nat → Int) (srt : Int) (b many : Nat) : Nat → Tr → Nat → (Nat → Int) → Nat × (Nat → Int)
  | 0, _, n, w => (n, w)
  | k + 1, t, n, w => if n < many then (match tgo sp st t with
      | none => (n, w)
      | some t' => if n + 1 = many then (n + 1, upg w (b + n) t'.1) else lsN sp st srt b many k t' (n + 2) (upg (upg w (b + n) t'.1) (b + (n + 1)) (cutV t'.2.2.2.2 srt))) else (n, w)
set_option maxRecDepth 4000 in
theorem l_numbers {Γ : Gm} {d : Nat} {m : Mem} (t s n : Nat) (w20 w21 w22 : Nat → Int) (ht : t < 4) (hn : n ≤ 40) : ∀ (q k : Nat) (M : Mem), k + q = n → M 220 = w20 → M 221 = w21 → (∀ j, M 222 j = clrN w22 (40 * t) k j) → Fr sTr m M → Em Γ (d + 1) MX12_numbers (fun r m' => r = 0 ∧ m' 220 = w20 ∧ m' 221 = w21 ∧ m' 222 = clrN w22 (40 * t) n ∧ Fr sTr m m') 64 [rv 211, iv t, iv s, iv n, iv k] [] M := by
  intro q
  induction q with
  | zero =>
    intro k M hk e20 e21 h22 hFr
    obtain rfl : k = n := by omega
    refine Ev.iload (q := 66) dX12_numbers_64 rfl rfl ?_
    refine Ev.iload_n (q := 67) dX12_numbers_66 rfl rfl ?_
    refine Ev.icmp_ge (tgt := 89) (q := 70) dX12_numbers_67 (by decide) rfl (fun h1 => ?_) (fun h1 => ?_)
    · skip
      refine Ev.iconst (q := 90) dX12_numbers_89 ki_0 rfl ?_
      refine rI dX12_numbers_90 rfl ?_
      exact ⟨rfl, e20, e21, funext h22, hFr⟩
    · skip
      omega
  | succ q ih =>
    intro k M hk e20 e21 h22 hFr
    refine Ev.iload (q := 66) dX12_numbers_64 rfl rfl ?_
    refine Ev.iload_n (q := 67) dX12_numbers_66 rfl rfl ?_
    refine Ev.icmp_ge (tgt := 89) (q := 70) dX12_numbers_67 (by decide) rfl (fun h1 => ?_) (fun h1 => ?_)
    · skip
      omega
    · skip
      refine Ev.aload_n (q := 71) dX12_numbers_70 rfl rfl ?_
      refine gR (q := 74) dX12_numbers_71 gfX12_48 k211 r211_34 rfl rfl ?_
      refine Ev.bipush (q := 76) dX12_numbers_74 kb_40 rfl ?_
      refine Ev.iload_n (q := 77) dX12_numbers_76 rfl rfl ?_
      refine Ev.imul (q := 78) dX12_numbers_77 rfl ?_
      refine Ev.iload (q := 80) dX12_numbers_78 rfl rfl ?_
      refine Ev.iadd (q := 81) dX12_numbers_80 rfl ?_
      refine Ev.lconst (q := 82) dX12_numbers_81 kj_0 rfl ?_
      refine sJ (q := 83) (k := 40 * t + k) dX12_numbers_82 k222 (by first | rfl | omega | (simp (disch := omega) only [w32_of]; omega)) (by omega) rfl ?_
      refine iinc_4 (q := 86) dX12_numbers_83 rfl rfl rfl ?_
      refine Ev.goto (q := 64) dX12_numbers_86 (by decide) ?_
      rw [w32_of (z := (k : Int) + 1) (by omega) (by omega)]
      refine ih (k + 1) _ (by omega) (by rw [up_na _ _ (by decide)]; exact e20) (by rw [up_na _ _ (by decide)]; exact e21) (fun j => ?_) (hFr.up rfl)
      unfold clrN at h22 ⊢
      by_cases hj : j = 40 * t + k
      · rw [hj, up_eq, if_pos (by omega)]
      · rw [up_k _ _ hj, h22]
        by_cases hq : 40 * t ≤ j ∧ j < 40 * t + k
        · rw [if_pos hq, if_pos (by omega)]
        · rw [if_neg hq, if_neg (by omega)]
set_option maxRecDepth 4000 in
theorem p_X12_numbers {Γ : Gm} {d : Nat} {m : Mem} (t s n : Int) : Ci Γ (d + 1) MX12_numbers [rv 211, iv t, iv s, iv n] m (fun r m' => (okNum t s n → r = 0 ∧ m' 220 = upg (m 220) t.toNat s ∧ m' 221 = upg (m 221) t.toNat n ∧ m' 222 = clrN (m 222) (40 * t.toNat) n.toNat ∧ Fr sTr m m') ∧ (¬ okNum t s n → r = (if (0 ≤ t ∧ t ≤ 3) ∧ (0 ≤ s ∧ s ≤ 3) then -3 else -2) ∧ Fr sQ m m')) := by
  refine Ci.of moX12_numbers rfl rfl (fun hA hM => ?_)
  show Em Γ (d + 1) MX12_numbers _ 0 [rv 211, iv t, iv s, iv n, uv] [] m
  refine Ev.aload_n (q := 1) dX12_numbers_0 rfl rfl ?_
  refine Ev.iconst (q := 2) dX12_numbers_1 ki_0 rfl ?_
  refine pI (q := 5) dX12_numbers_2 gfX12_1 k211 rfl rfl ?_
  obtain ⟨M0, hM0⟩ : ∃ M0, M0 = up m 211 0 0 := ⟨_, rfl⟩
  rw [← hM0]
  have hF0 : Fr sQ m M0 := by rw [hM0]; exact (Fr.rf _ _).up rfl
  have g0 : M0 212 = m 212 := hF0.row 212 (fun _ => rfl)
  have g20 : M0 220 = m 220 := hF0.row 220 (fun _ => rfl)
  have g21 : M0 221 = m 221 := hF0.row 221 (fun _ => rfl)
  have g22 : M0 222 = m 222 := hF0.row 222 (fun _ => rfl)
  rw [← g20, ← g21, ← g22]
  clear hM0
  refine Ev.iload_n (q := 6) dX12_numbers_5 rfl rfl ?_
  refine Ev.i2l (q := 7) dX12_numbers_6 rfl ?_
  refine Ev.lconst (q := 8) dX12_numbers_7 kj_0 rfl ?_
  refine Ev.ldc2 (q := 11) dX12_numbers_8 klX12_323 klvX12_323 rfl ?_
  refine cS3i (q := 14) (d' := d + 0) dX12_numbers_11 mlX12_118 moX12_within msX12_within rfl rfl (Nat.le_refl _) rfl rfl rfl (p_X12_within _ _ _) (fun r1 m1 e1 => ?_)
  obtain ⟨rfl, e1⟩ := e1
  obtain rfl := e1.symm
  refine Ev.if_eq (tgt := 29) (q := 17) dX12_numbers_14 (by decide) rfl (fun h2 => ?_) (fun h2 => ?_)
  · skip
    have hT : ¬ (0 ≤ t ∧ t ≤ 3) := by split at h2 <;> omega
    refine Ev.bipush (q := 31) dX12_numbers_29 kb_m2 rfl ?_
    refine rI dX12_numbers_31 rfl ?_
    refine ⟨fun z => absurd z (fun z => hT z.1), fun _ => ⟨?_, hF0⟩⟩
    rw [if_neg (fun z => hT z.1)]
  · skip
    have hT : 0 ≤ t ∧ t ≤ 3 := by split at h2 <;> omega
    refine Ev.iload_n (q := 18) dX12_numbers_17 rfl rfl ?_
    refine Ev.i2l (q := 19) dX12_numbers_18 rfl ?_
    refine Ev.lconst (q := 20) dX12_numbers_19 kj_0 rfl ?_
    refine Ev.ldc2 (q := 23) dX12_numbers_20 klX12_323 klvX12_323 rfl ?_
    refine cS3i (q := 26) (d' := d + 0) dX12_numbers_23 mlX12_118 moX12_within msX12_within rfl rfl (Nat.le_refl _) rfl rfl rfl (p_X12_within _ _ _) (fun r3 m3 e3 => ?_)
    obtain ⟨rfl, e3⟩ := e3
    obtain rfl := e3.symm
    refine Ev.if_ne (tgt := 32) (q := 29) dX12_numbers_26 (by decide) rfl (fun h4 => ?_) (fun h4 => ?_)
    · skip
      have hS : 0 ≤ s ∧ s ≤ 3 := by split at h4 <;> omega
      refine Ev.iload_n (q := 33) dX12_numbers_32 rfl rfl ?_
      refine Ev.i2l (q := 34) dX12_numbers_33 rfl ?_
      refine Ev.lconst (q := 35) dX12_numbers_34 kj_0 rfl ?_
      refine Ev.ldc2 (q := 38) dX12_numbers_35 klX12_347 klvX12_347 rfl ?_
      refine cS3i (q := 41) (d' := d + 0) dX12_numbers_38 mlX12_118 moX12_within msX12_within rfl rfl (Nat.le_refl _) rfl rfl rfl (p_X12_within _ _ _) (fun r5 m5 e5 => ?_)
      obtain ⟨rfl, e5⟩ := e5
      obtain rfl := e5.symm
      refine Ev.if_ne (tgt := 47) (q := 44) dX12_numbers_41 (by decide) rfl (fun h6 => ?_) (fun h6 => ?_)
      · skip
        have hN : 0 ≤ n ∧ n ≤ 40 := by split at h6 <;> omega
        obtain ⟨tn, rfl⟩ : ∃ tn : Nat, t = tn := ⟨t.toNat, by omega⟩
        obtain ⟨sn, rfl⟩ : ∃ sn : Nat, s = sn := ⟨s.toNat, by omega⟩
        obtain ⟨nn, rfl⟩ : ∃ nn : Nat, n = nn := ⟨n.toNat, by omega⟩
        refine Ev.aload_n (q := 48) dX12_numbers_47 rfl rfl ?_
        refine gR (q := 51) dX12_numbers_48 gfX12_42 k211 r211_32 rfl rfl ?_
        refine Ev.iload_n (q := 52) dX12_numbers_51 rfl rfl ?_
        refine Ev.iload_n (q := 53) dX12_numbers_52 rfl rfl ?_
        refine sI (q := 54) (k := tn) dX12_numbers_53 k220 (by first | rfl | omega | (simp (disch := omega) only [w32_of]; omega)) (by omega) rfl ?_
        refine Ev.aload_n (q := 55) dX12_numbers_54 rfl rfl ?_
        refine gR (q := 58) dX12_numbers_55 gfX12_45 k211 r211_33 rfl rfl ?_
        refine Ev.iload_n (q := 59) dX12_numbers_58 rfl rfl ?_
        refine Ev.iload_n (q := 60) dX12_numbers_59 rfl rfl ?_
        refine sI (q := 61) (k := tn) dX12_numbers_60 k221 (by first | rfl | omega | (simp (disch := omega) only [w32_of]; omega)) (by omega) rfl ?_
        refine Ev.iconst (q := 62) dX12_numbers_61 ki_0 rfl ?_
        refine istore_4 (q := 64) dX12_numbers_62 rfl rfl rfl ?_
        have hk9 := l_numbers (Γ := Γ) (d := d) (m := m) tn sn nn (upg (M0 220) tn sn) (upg (M0 221) tn nn) (M0 222) (by omega) (by omega) nn 0 (up (up M0 220 tn sn) 221 tn nn) (by omega) (by rw [up_na _ _ (by decide), up_row]) (by rw [up_row, up_na _ _ (by decide)]) (fun j => by rw [up_o _ _ (by decide), up_o _ _ (by decide)]; unfold clrN; rw [if_neg (by omega)]) (((hF0.mono (fun a k q => sTr_Q q)).up rfl).up rfl)
        refine Em.imp ?_ hk9
        intro r m' h9
        refine ⟨fun _ => ?_, fun z => absurd ⟨hT, hS, hN⟩ z⟩
        simp only [Int.toNat_natCast]
        exact h9
      · skip
        have hN : ¬ (0 ≤ n ∧ n ≤ 40) := by split at h6 <;> omega
        refine Ev.bipush (q := 46) dX12_numbers_44 kb_m3 rfl ?_
        refine rI dX12_numbers_46 rfl ?_
        refine ⟨fun z => absurd z (fun z => hN z.2.2), fun _ => ⟨?_, hF0⟩⟩
        rw [if_pos ⟨hT, hS⟩]
    · skip
      have hS : ¬ (0 ≤ s ∧ s ≤ 3) := by split at h4 <;> omega
      refine Ev.bipush (q := 31) dX12_numbers_29 kb_m2 rfl ?_
      refine rI dX12_numbers_31 rfl ?_
      refine ⟨fun z => absurd z (fun z => hS z.2.1), fun _ => ⟨?_, hF0⟩⟩
      rw [if_neg (fun z => hS z.2)]
set_option maxRecDepth 4000 in
theorem p_X12_write {Γ : Gm} {d : Nat} {m : Mem} (t i v : Int) (h221 : ∀ i, i < 4 → 0 ≤ m 221 i ∧ m 221 i ≤ 40) : Ci Γ (d + 2) MX12_write [rv 211, iv t, iv i, jv v] m (fun r m' => (((0 ≤ t ∧ t ≤ 3) ∧ ¬ m 220 t.toNat = -1 ∧ (0 ≤ i ∧ i < m 221 t.toNat)) → r = cutV v (m 220 t.toNat) ∧ m' 222 = upg (m 222) (40 * t.toNat + i.toNat) (cutV v (m 220 t.toNat)) ∧ Fr sTr m m' ∧ m' 220 = m 220 ∧ m' 221 = m 221) ∧ (¬ ((0 ≤ t ∧ t ≤ 3) ∧ ¬ m 220 t.toNat = -1 ∧ (0 ≤ i ∧ i < m 221 t.toNat)) → r = (if ¬ (0 ≤ t ∧ t ≤ 3) then -2 else if m 220 t.toNat = -1 then -6 else -7) ∧ Fr sQ m m')) := by
  refine Ci.of moX12_write rfl rfl (fun hA hM => ?_)
  show Em Γ (d + 2) MX12_write _ 0 [rv 211, iv t, iv i, jv v, uv, uv] [] m
  refine Ev.aload_n (q := 1) dX12_write_0 rfl rfl ?_
  refine Ev.iconst (q := 2) dX12_write_1 ki_0 rfl ?_
  refine pI (q := 5) dX12_write_2 gfX12_1 k211 rfl rfl ?_
  obtain ⟨M0, hM0⟩ : ∃ M0, M0 = up m 211 0 0 := ⟨_, rfl⟩
  rw [← hM0]
  have hF0 : Fr sQ m M0 := by rw [hM0]; exact (Fr.rf _ _).up rfl
  have g0 : M0 212 = m 212 := hF0.row 212 (fun _ => rfl)
  have g20 : M0 220 = m 220 := hF0.row 220 (fun _ => rfl)
  have g21 : M0 221 = m 221 := hF0.row 221 (fun _ => rfl)
  have g22 : M0 222 = m 222 := hF0.row 222 (fun _ => rfl)
  rw [← g20, ← g21, ← g22]
  clear hM0
  rw [← g21] at h221
  refine Ev.aload_n (q := 6) dX12_write_5 rfl rfl ?_
  refine Ev.iload_n (q := 7) dX12_write_6 rfl rfl ?_
  refine cV1i (q := 10) (d' := d + 1) dX12_write_7 mlX12_325 moX12_noTray mvX12_noTray k211 rfl rfl rfl (Nat.le_refl _) rfl rfl rfl (p_X12_noTray t) (fun r1 m1 e1 => ?_)
  obtain ⟨rfl, e1⟩ := e1
  obtain rfl := e1.symm
  refine istore_5 (q := 12) dX12_write_10 rfl rfl rfl ?_
  refine Ev.iload (q := 14) dX12_write_12 rfl rfl ?_
  refine Ev.if_eq (tgt := 21) (q := 17) dX12_write_14 (by decide) rfl (fun h2 => ?_) (fun h2 => ?_)
  · skip
    have hT : 0 ≤ t ∧ t ≤ 3 := by split at h2 <;> omega
    have hs : ¬ M0 220 t.toNat = -1 := by rw [if_neg (by omega)] at h2; split at h2 <;> simp_all
    obtain ⟨tn, rfl⟩ : ∃ tn : Nat, t = tn := ⟨t.toNat, by omega⟩
    rw [Int.toNat_natCast] at *
    have hq := h221 tn (by omega)
    refine Ev.iload_n (q := 22) dX12_write_21 rfl rfl ?_
    refine Ev.i2l (q := 23) dX12_write_22 rfl ?_
    refine Ev.lconst (q := 24) dX12_write_23 kj_0 rfl ?_
    refine Ev.aload_n (q := 25) dX12_write_24 rfl rfl ?_
    refine gR (q := 28) dX12_write_25 gfX12_45 k211 r211_33 rfl rfl ?_
    refine Ev.iload_n (q := 29) dX12_write_28 rfl rfl ?_
    refine aI (q := 30) (k := tn) dX12_write_29 k221 (by first | rfl | omega | (simp (disch := omega) only [w32_of]; omega)) (by omega) rfl ?_
    refine Ev.iconst (q := 31) dX12_write_30 ki_1 rfl ?_
    refine Ev.isub (q := 32) dX12_write_31 rfl ?_
    refine Ev.i2l (q := 33) dX12_write_32 rfl ?_
    refine cS3i (q := 36) (d' := d + 1) dX12_write_33 mlX12_118 moX12_within msX12_within rfl rfl (Nat.le_refl _) rfl rfl rfl (p_X12_within _ _ _) (fun r3 m3 e3 => ?_)
    obtain ⟨rfl, e3⟩ := e3
    obtain rfl := e3.symm
    rw [w32_of (by omega) (by omega)]
    refine Ev.if_ne (tgt := 43) (q := 39) dX12_write_36 (by decide) rfl (fun h4 => ?_) (fun h4 => ?_)
    · skip
      have hi : 0 ≤ i ∧ i ≤ M0 221 tn - 1 := by split at h4 <;> omega
      obtain ⟨iN, rfl⟩ : ∃ iN : Nat, i = iN := ⟨i.toNat, by omega⟩
      refine Ev.aload_n (q := 44) dX12_write_43 rfl rfl ?_
      refine gR (q := 47) dX12_write_44 gfX12_48 k211 r211_34 rfl rfl ?_
      refine Ev.bipush (q := 49) dX12_write_47 kb_40 rfl ?_
      refine Ev.iload_n (q := 50) dX12_write_49 rfl rfl ?_
      refine Ev.imul (q := 51) dX12_write_50 rfl ?_
      refine Ev.iload_n (q := 52) dX12_write_51 rfl rfl ?_
      refine Ev.iadd (q := 53) dX12_write_52 rfl ?_
      refine Ev.lload_n (q := 54) dX12_write_53 rfl rfl ?_
      refine Ev.aload_n (q := 55) dX12_write_54 rfl rfl ?_
      refine gR (q := 58) dX12_write_55 gfX12_42 k211 r211_32 rfl rfl ?_
      refine Ev.iload_n (q := 59) dX12_write_58 rfl rfl ?_
      refine aI (q := 60) (k := tn) dX12_write_59 k220 (by first | rfl | omega | (simp (disch := omega) only [w32_of]; omega)) (by omega) rfl ?_
      refine cS2j (q := 63) (d' := d + 1) dX12_write_60 mlX12_437 moX12_cut msX12_cut rfl rfl (Nat.le_refl _) rfl rfl rfl (p_X12_cut _ _) (fun r5 m5 e5 => ?_)
      obtain ⟨rfl, e5⟩ := e5
      obtain rfl := e5.symm
      refine sJ (q := 64) (k := 40 * tn + iN) dX12_write_63 k222 (by first | rfl | omega | (simp (disch := omega) only [w32_of]; omega)) (by omega) rfl ?_
      refine Ev.aload_n (q := 65) dX12_write_64 rfl rfl ?_
      refine gR (q := 68) dX12_write_65 gfX12_48 k211 r211_34 rfl rfl ?_
      refine Ev.bipush (q := 70) dX12_write_68 kb_40 rfl ?_
      refine Ev.iload_n (q := 71) dX12_write_70 rfl rfl ?_
      refine Ev.imul (q := 72) dX12_write_71 rfl ?_
      refine Ev.iload_n (q := 73) dX12_write_72 rfl rfl ?_
      refine Ev.iadd (q := 74) dX12_write_73 rfl ?_
      refine aJ (q := 75) (k := 40 * tn + iN) dX12_write_74 k222 (by first | rfl | omega | (simp (disch := omega) only [w32_of]; omega)) (by omega) rfl ?_
      refine rJ dX12_write_75 rfl ?_
      refine ⟨fun _ => ⟨up_eq _ _ _ _, ?_, (hF0.mono (fun a k q => sTr_Q q)).up rfl, ?_, ?_⟩, fun z => absurd ⟨hT, hs, by omega, by omega⟩ z⟩
      · rw [up_row, Int.toNat_natCast]
      · rw [up_na _ _ (by decide)]
      · rw [up_na _ _ (by decide)]
    · skip
      have hi : ¬ (0 ≤ i ∧ i ≤ M0 221 tn - 1) := by split at h4 <;> omega
      refine Ev.ldc2 (q := 42) dX12_write_39 klX12_435 klvX12_435 rfl ?_
      refine rJ dX12_write_42 rfl ?_
      refine ⟨fun z => absurd z.2.2 (by omega), fun _ => ⟨?_, hF0⟩⟩
      rw [if_neg (fun z => z hT), if_neg hs]
  · skip
    by_cases hT : 0 ≤ t ∧ t ≤ 3
    · have hs : M0 220 t.toNat = -1 := by rw [if_neg (by omega)] at h2; split at h2 <;> simp_all
      rw [show (if t < 0 ∨ 3 < t then (-2 : Int) else if M0 220 t.toNat = -1 then -6 else 0) = -6 by rw [if_neg (show ¬ (t < 0 ∨ 3 < t) by omega), if_pos hs]]
      refine Ev.iload (q := 19) dX12_write_17 rfl rfl ?_
      refine Ev.i2l (q := 20) dX12_write_19 rfl ?_
      refine rJ dX12_write_20 rfl ?_
      refine ⟨fun z => absurd z (fun z => z.2.1 hs), fun _ => ⟨?_, hF0⟩⟩
      rw [if_neg (fun z => z hT), if_pos hs]
    · rw [show (if t < 0 ∨ 3 < t then (-2 : Int) else if M0 220 t.toNat = -1 then -6 else 0) = -2 by rw [if_pos (show t < 0 ∨ 3 < t by omega)]]
      refine Ev.iload (q := 19) dX12_write_17 rfl rfl ?_
      refine Ev.i2l (q := 20) dX12_write_19 rfl ?_
      refine rJ dX12_write_20 rfl ?_
      refine ⟨fun z => absurd z (fun z => hT z.1), fun _ => ⟨?_, hF0⟩⟩
      rw [if_pos hT]
set_option maxRecDepth 4000 in
theorem l_lists {Γ : Gm} {d : Nat} {m M0 : Mem} (t l N F : Nat) (x3 : Int) (R : Nat × (Nat → Int)) (ht : t < 4) (hN40 : N ≤ 40) (hN : M0 221 t = N) (hF : M0 212 1 = F) (hl3 : l < 3) (hI : HI (M0 212)) : ∀ (n h : Nat) (tt : Int) (s : Nat) (uu : Bool) (c : Int) (k : Nat) (W : Nat → Int) (v5 : Vl) (M : Mem), pop s < n → k ≤ N → Fr sTr m M → M 212 = M0 212 → M 220 = M0 220 → M 221 = M0 221 → M 222 = W → TM M l (h, tt, s, uu, c) → tOk2 F (h, tt, s, uu, c) → lsN (M0 212 (22 + l)) (stopV (M0 212) l) (M0 220 t) (40 * t) N n (h, tt, s, uu, c) k W = R → Em Γ (d + 4) MX12_lists (fun r m' => r = (R.1 : Int) ∧ m' 222 = R.2 ∧ Fr sTr m m' ∧ m' 220 = M0 220 ∧ m' 221 = M0 221) 49 [rv 211, iv t, iv l, iv x3, iv k, v5] [] M := by
  intro n
  induction n with
  | zero => intro h tt s uu c k W v5 M hp; omega
  | succ n ih =>
    intro h tt s uu c k W v5 M hp hkN hFr g12 e20 e21 e22 hT hok hR
    refine Ev.aload_n (q := 50) dX12_lists_49 rfl rfl ?_
    refine gI (q := 53) dX12_lists_50 gfX12_200 k211 rfl rfl ?_
    rw [hT.2.2.2.1]
    refine Ev.if_eq (tgt := 137) (q := 56) dX12_lists_53 (by decide) rfl (fun h1 => ?_) (fun h1 => ?_)
    · skip
      dsimp only at h1
      refine Ev.iload (q := 139) dX12_lists_137 rfl rfl ?_
      refine rI dX12_lists_139 rfl ?_
      rw [← hR]
      have hrv : lsN (M0 212 (22 + l)) (stopV (M0 212) l) (M0 220 t) (40 * t) N (n + 1) (h, tt, s, uu, c) k W = (k, W) := by
        unfold lsN
        rw [tgo_zero (show s = 0 by omega)]
        split <;> rfl
      rw [hrv]
      exact ⟨rfl, e22, hFr, e20, e21⟩
    · skip
      dsimp only at h1
      refine Ev.iload (q := 58) dX12_lists_56 rfl rfl ?_
      refine Ev.aload_n (q := 59) dX12_lists_58 rfl rfl ?_
      refine gR (q := 62) dX12_lists_59 gfX12_45 k211 r211_33 rfl rfl ?_
      refine Ev.iload_n (q := 63) dX12_lists_62 rfl rfl ?_
      refine aI (q := 64) (k := t) dX12_lists_63 k221 (by first | rfl | omega | (simp (disch := omega) only [w32_of]; omega)) (by omega) rfl ?_
      rw [e21, hN]
      refine Ev.icmp_ge (tgt := 137) (q := 67) dX12_lists_64 (by decide) rfl (fun h2 => ?_) (fun h2 => ?_)
      · skip
        refine Ev.iload (q := 139) dX12_lists_137 rfl rfl ?_
        refine rI dX12_lists_139 rfl ?_
        rw [← hR]
        have hrv : lsN (M0 212 (22 + l)) (stopV (M0 212) l) (M0 220 t) (40 * t) N (n + 1) (h, tt, s, uu, c) k W = (k, W) := by
          unfold lsN
          rw [if_neg (by omega)]
        rw [hrv]
        exact ⟨rfl, e22, hFr, e20, e21⟩
      · skip
        refine Ev.aload_n (q := 68) dX12_lists_67 rfl rfl ?_
        refine cV0i (q := 71) (d' := d + 3) dX12_lists_68 mlX12_251 moX12_goes mvX12_goes k211 rfl rfl rfl (Nat.le_refl _) rfl rfl rfl (p_X12_goes l F h tt s uu c hT hok.1 (by rw [g12]; exact hF) hl3 (by rw [g12]; exact hI.law1)) (fun r3 m3 e3 => ?_)
        obtain ⟨eN, eS⟩ := e3
        rw [g12] at eN eS
        obtain ⟨t', hq⟩ : ∃ t', tgo (M0 212 (22 + l)) (stopV (M0 212) l) (h, tt, s, uu, c) = some t' := by
          cases hq : tgo (M0 212 (22 + l)) (stopV (M0 212) l) (h, tt, s, uu, c) with
          | none =>
            have hz := tgo_none hok hq
            dsimp only at hz
            omega
          | some t' => exact ⟨t', rfl⟩
        obtain ⟨rfl, hT', hfr⟩ := eS t' hq
        have hok' := tgo_ok2 hok hq
        have hpop := tgo_pop hok hq
        dsimp only at hpop
        have hF1 := hFr.tr (hfr.mono (fun a k q => sQ_T (sTr_Q q)))
        have g1 : m3 212 = M0 212 := by rw [hfr.row 212 (fun _ => rfl)]; exact g12
        have f20 : m3 220 = M0 220 := by rw [hfr.row 220 (fun _ => rfl)]; exact e20
        have f21 : m3 221 = M0 221 := by rw [hfr.row 221 (fun _ => rfl)]; exact e21
        have f22 : m3 222 = W := by rw [hfr.row 222 (fun _ => rfl)]; exact e22
        generalize m3 = M1 at *
        obtain ⟨h9, tt9, s9, u9, c9⟩ := t'
        dsimp only at hpop
        refine istore_5 (q := 73) dX12_lists_71 rfl rfl rfl ?_
        refine Ev.aload_n (q := 74) dX12_lists_73 rfl rfl ?_
        refine gR (q := 77) dX12_lists_74 gfX12_48 k211 r211_34 rfl rfl ?_
        refine Ev.bipush (q := 79) dX12_lists_77 kb_40 rfl ?_
        refine Ev.iload_n (q := 80) dX12_lists_79 rfl rfl ?_
        refine Ev.imul (q := 81) dX12_lists_80 rfl ?_
        refine Ev.iload (q := 83) dX12_lists_81 rfl rfl ?_
        refine Ev.iadd (q := 84) dX12_lists_83 rfl ?_
        refine Ev.iload (q := 86) dX12_lists_84 rfl rfl ?_
        refine Ev.i2l (q := 87) dX12_lists_86 rfl ?_
        refine sJ (q := 88) (k := 40 * t + k) dX12_lists_87 k222 (by first | rfl | omega | (simp (disch := omega) only [w32_of]; omega)) (by omega) rfl ?_
        refine iinc_4 (q := 91) dX12_lists_88 rfl rfl rfl ?_
        rw [w32_of (z := (k : Int) + 1) (by omega) (by omega)]
        refine Ev.iload (q := 93) dX12_lists_91 rfl rfl ?_
        refine Ev.aload_n (q := 94) dX12_lists_93 rfl rfl ?_
        refine gR (q := 97) dX12_lists_94 gfX12_45 k211 r211_33 rfl rfl ?_
        refine Ev.iload_n (q := 98) dX12_lists_97 rfl rfl ?_
        refine aI (q := 99) (k := t) dX12_lists_98 k221 (by first | rfl | omega | (simp (disch := omega) only [w32_of]; omega)) (by omega) rfl ?_
        rw [up_na _ _ (by decide), f21, hN]
        refine Ev.icmp_ne (tgt := 105) (q := 102) dX12_lists_99 (by decide) rfl (fun h4 => ?_) (fun h4 => ?_)
        · skip
          show Ev _ _ _ _ _ 105 [rv 211, iv t, iv l, iv x3, iv ((k + 1 : Nat) : Int), _] [] _ _
          refine Ev.aload_n (q := 106) dX12_lists_105 rfl rfl ?_
          refine gR (q := 109) dX12_lists_106 gfX12_48 k211 r211_34 rfl rfl ?_
          refine Ev.bipush (q := 111) dX12_lists_109 kb_40 rfl ?_
          refine Ev.iload_n (q := 112) dX12_lists_111 rfl rfl ?_
          refine Ev.imul (q := 113) dX12_lists_112 rfl ?_
          refine Ev.iload (q := 115) dX12_lists_113 rfl rfl ?_
          refine Ev.iadd (q := 116) dX12_lists_115 rfl ?_
          refine Ev.aload_n (q := 117) dX12_lists_116 rfl rfl ?_
          refine gI (q := 120) dX12_lists_117 gfX12_221 k211 rfl rfl ?_
          rw [up_o _ _ (by decide), show M1 211 22 = c9 from hT'.2]
          refine Ev.i2l (q := 121) dX12_lists_120 rfl ?_
          refine Ev.aload_n (q := 122) dX12_lists_121 rfl rfl ?_
          refine gR (q := 125) dX12_lists_122 gfX12_42 k211 r211_32 rfl rfl ?_
          refine Ev.iload_n (q := 126) dX12_lists_125 rfl rfl ?_
          refine aI (q := 127) (k := t) dX12_lists_126 k220 (by first | rfl | omega | (simp (disch := omega) only [w32_of]; omega)) (by omega) rfl ?_
          rw [up_na _ _ (by decide), f20]
          refine cS2j (q := 130) (d' := d + 3) dX12_lists_127 mlX12_437 moX12_cut msX12_cut rfl rfl (Nat.le_refl _) rfl rfl rfl (p_X12_cut _ _) (fun r5 m5 e5 => ?_)
          obtain ⟨rfl, e5⟩ := e5
          obtain rfl := e5.symm
          refine sJ (q := 131) (k := 40 * t + (k + 1)) dX12_lists_130 k222 (by first | rfl | omega | (simp (disch := omega) only [w32_of]; omega)) (by omega) rfl ?_
          refine iinc_4 (q := 134) dX12_lists_131 rfl rfl rfl ?_
          refine Ev.goto (q := 49) dX12_lists_134 (by decide) ?_
          rw [w32_of (by omega) (by omega), show (((k + 1 : Nat) : Int) + 1) = ((k + 2 : Nat) : Int) by omega]
          refine ih h9 tt9 s9 u9 c9 (k + 2) _ _ _ (by omega) (by omega) ((hF1.up rfl).up rfl) (by rw [up_na _ _ (by decide), up_na _ _ (by decide)]; exact g1) (by rw [up_na _ _ (by decide), up_na _ _ (by decide)]; exact f20) (by rw [up_na _ _ (by decide), up_na _ _ (by decide)]; exact f21) (by rw [up_row, up_row, f22]) ?_ hok' ?_
          · have := hT'.1
            unfold TM at this ⊢
            simp only [up_o _ _ (show (211 : Nat) ≠ 222 by decide)]
            exact this
          · rw [← hR]
            conv => rhs; unfold lsN; rw [if_pos (by omega), hq]
            dsimp only
            rw [if_neg (by omega)]
        · skip
          refine Ev.goto (q := 137) dX12_lists_102 (by decide) ?_
          refine Ev.iload (q := 139) dX12_lists_137 rfl rfl ?_
          refine rI dX12_lists_139 rfl ?_
          rw [← hR]
          have hrv : lsN (M0 212 (22 + l)) (stopV (M0 212) l) (M0 220 t) (40 * t) N (n + 1) (h, tt, s, uu, c) k W = (k + 1, upg W (40 * t + k) h9) := by
            unfold lsN
            rw [if_pos (by omega), hq]
            dsimp only
            rw [if_pos (by omega)]
          rw [hrv]
          refine ⟨by dsimp only; omega, by rw [up_row, f22], hF1.up rfl, by rw [up_na _ _ (by decide)]; exact f20, by rw [up_na _ _ (by decide)]; exact f21⟩
set_option maxRecDepth 4000 in
theorem p_X12_lists {Γ : Gm} {d : Nat} {m : Mem} (t l : Int) (hI : HI (m 212)) (h221 : ∀ i, i < 4 → 0 ≤ m 221 i ∧ m 221 i ≤ 40) : Ci Γ (d + 4) MX12_lists [rv 211, iv t, iv l] m (fun r m' => (((0 ≤ t ∧ t ≤ 3) ∧ (0 ≤ l ∧ l < m 212 2) ∧ ¬ m 220 t.toNat = -1) → r = ((lsN (m 212 (22 + l.toNat)) (stopV (m 212) l.toNat) (m 220 t.toNat) (40 * t.toNat) (m 221 t.toNat).toNat 13 (liftT (m 212) l.toNat) 0 (m 222)).1 : Int) ∧ m' 222 = (lsN (m 212 (22 + l.toNat)) (stopV (m 212) l.toNat) (m 220 t.toNat) (40 * t.toNat) (m 221 t.toNat).toNat 13 (liftT (m 212) l.toNat) 0 (m 222)).2 ∧ Fr sTr m m' ∧ m' 220 = m 220 ∧ m' 221 = m 221) ∧ (¬ ((0 ≤ t ∧ t ≤ 3) ∧ (0 ≤ l ∧ l < m 212 2) ∧ ¬ m 220 t.toNat = -1) → r = (if (0 ≤ t ∧ t ≤ 3) ∧ (0 ≤ l ∧ l < m 212 2) then -6 else -2) ∧ Fr sQ m m')) := by
  refine Ci.of moX12_lists rfl rfl (fun hA hM => ?_)
  show Em Γ (d + 4) MX12_lists _ 0 [rv 211, iv t, iv l, uv, uv, uv] [] m
  refine Ev.aload_n (q := 1) dX12_lists_0 rfl rfl ?_
  refine Ev.iconst (q := 2) dX12_lists_1 ki_0 rfl ?_
  refine pI (q := 5) dX12_lists_2 gfX12_1 k211 rfl rfl ?_
  obtain ⟨M0, hM0⟩ : ∃ M0, M0 = up m 211 0 0 := ⟨_, rfl⟩
  rw [← hM0]
  have hF0 : Fr sQ m M0 := by rw [hM0]; exact (Fr.rf _ _).up rfl
  have g0 : M0 212 = m 212 := hF0.row 212 (fun _ => rfl)
  rw [← g0] at hI ⊢
  have hF12 := hI.1
  have hL3 := hI.2.1
  have hP8 := hI.2.2.1
  have g20 : M0 220 = m 220 := hF0.row 220 (fun _ => rfl)
  have g21 : M0 221 = m 221 := hF0.row 221 (fun _ => rfl)
  have g22 : M0 222 = m 222 := hF0.row 222 (fun _ => rfl)
  rw [← g20, ← g21, ← g22]
  clear hM0
  rw [← g21] at h221
  refine Ev.iload_n (q := 6) dX12_lists_5 rfl rfl ?_
  refine Ev.i2l (q := 7) dX12_lists_6 rfl ?_
  refine Ev.lconst (q := 8) dX12_lists_7 kj_0 rfl ?_
  refine Ev.ldc2 (q := 11) dX12_lists_8 klX12_323 klvX12_323 rfl ?_
  refine cS3i (q := 14) (d' := d + 3) dX12_lists_11 mlX12_118 moX12_within msX12_within rfl rfl (Nat.le_refl _) rfl rfl rfl (p_X12_within _ _ _) (fun r1 m1 e1 => ?_)
  obtain ⟨rfl, e1⟩ := e1
  obtain rfl := e1.symm
  refine Ev.if_eq (tgt := 26) (q := 17) dX12_lists_14 (by decide) rfl (fun h2 => ?_) (fun h2 => ?_)
  · skip
    have hT : ¬ (0 ≤ t ∧ t ≤ 3) := by split at h2 <;> omega
    refine Ev.bipush (q := 28) dX12_lists_26 kb_m2 rfl ?_
    refine rI dX12_lists_28 rfl ?_
    refine ⟨fun z => absurd z.1 hT, fun _ => ⟨?_, hF0⟩⟩
    rw [if_neg (fun z => hT z.1)]
  · skip
    have hT : 0 ≤ t ∧ t ≤ 3 := by split at h2 <;> omega
    obtain ⟨tn, rfl⟩ : ∃ tn : Nat, t = tn := ⟨t.toNat, by omega⟩
    refine Ev.aload_n (q := 18) dX12_lists_17 rfl rfl ?_
    refine Ev.iload_n (q := 19) dX12_lists_18 rfl rfl ?_
    refine Ev.i2l (q := 20) dX12_lists_19 rfl ?_
    refine cV1i (q := 23) (d' := d + 3) dX12_lists_20 mlX12_230 moX12_isLift mvX12_isLift k211 rfl rfl rfl (Nat.le_refl _) rfl rfl rfl (p_X12_isLift l (by omega)) (fun r3 m3 e3 => ?_)
    obtain ⟨rfl, e3⟩ := e3
    obtain rfl := e3.symm
    refine Ev.if_ne (tgt := 29) (q := 26) dX12_lists_23 (by decide) rfl (fun h4 => ?_) (fun h4 => ?_)
    · skip
      have hLL : 0 ≤ l ∧ l < M0 212 2 := by split at h4 <;> omega
      obtain ⟨ln, rfl⟩ : ∃ ln : Nat, l = ln := ⟨l.toNat, by omega⟩
      have hliftln := hI.lift (l := ln) (by omega)
      have e66ln : M0 212 (66 + ln) = ((litV (M0 212) ln : Nat) : Int) := by unfold litV; have := hliftln.2.1.1; omega
      have hlokln := hI.litOk (l := ln) (by omega)
      refine Ev.aload_n (q := 30) dX12_lists_29 rfl rfl ?_
      refine Ev.iload_n (q := 31) dX12_lists_30 rfl rfl ?_
      refine cV1i (q := 34) (d' := d + 3) dX12_lists_31 mlX12_325 moX12_noTray mvX12_noTray k211 rfl rfl rfl (Nat.le_refl _) rfl rfl rfl (p_X12_noTray _) (fun r5 m5 e5 => ?_)
      obtain ⟨rfl, e5⟩ := e5
      obtain rfl := e5.symm
      rw [if_neg (show ¬ ((tn : Int) < 0 ∨ 3 < (tn : Int)) by omega), Int.toNat_natCast]
      have hq := h221 tn (by omega)
      refine istore_n_3 (q := 35) dX12_lists_34 rfl rfl rfl ?_
      refine Ev.iload_n (q := 36) dX12_lists_35 rfl rfl ?_
      refine Ev.if_eq (tgt := 41) (q := 39) dX12_lists_36 (by decide) rfl (fun h6 => ?_) (fun h6 => ?_)
      · skip
        have hs : ¬ M0 220 tn = -1 := by split at h6 <;> simp_all
        refine Ev.aload_n (q := 42) dX12_lists_41 rfl rfl ?_
        refine Ev.iload_n (q := 43) dX12_lists_42 rfl rfl ?_
        refine cV1v (q := 46) (d' := d + 3) dX12_lists_43 mlX12_234 moX12_loads mvX12_loads k211 rfl rfl rfl (Nat.le_refl _) rfl rfl rfl (p_X12_loads ln (by omega) hliftln.1.1 hliftln.2.1.1) (fun r7 m7 e7 => ?_)
        obtain ⟨hT0, hfr7⟩ := e7
        have hF1 := hF0.tr (hfr7.mono (fun a k q => sQ_T q))
        have g1 : m7 212 = M0 212 := hfr7.row 212 (fun _ => rfl)
        generalize m7 = M1 at *
        refine Ev.iconst (q := 47) dX12_lists_46 ki_0 rfl ?_
        refine istore_4 (q := 49) dX12_lists_47 rfl rfl rfl ?_
        obtain ⟨N, hN⟩ : ∃ N : Nat, M0 221 tn = N := ⟨(M0 221 tn).toNat, by omega⟩
        have hk9 := l_lists (Γ := Γ) (d := d) (m := m) (M0 := M0) tn ln N (M0 212 1).toNat (if M0 220 tn = -1 then -6 else 0) _ (by omega) (by omega) hN (by omega) (by omega) hI 13 _ _ _ _ _ 0 (M0 222) uv M1 (by have := pop_le (litV (M0 212) ln); unfold litV at this; omega) (by omega) (hF1.mono (fun a k q => sTr_Q q)) g1 (hfr7.row 220 (fun _ => rfl)) (hfr7.row 221 (fun _ => rfl)) (hfr7.row 222 (fun _ => rfl)) hT0 (hI.liftOk (by omega) hlokln.1 hlokln.2) rfl
        refine Em.imp ?_ hk9
        intro r m' h9
        refine ⟨fun _ => ?_, fun z => absurd ⟨hT, hLL, by simpa only [Int.toNat_natCast] using hs⟩ z⟩
        simp only [Int.toNat_natCast, hN]
        exact h9
      · skip
        have hs : M0 220 tn = -1 := by split at h6 <;> simp_all
        refine Ev.iload_n (q := 40) dX12_lists_39 rfl rfl ?_
        refine rI dX12_lists_40 rfl ?_
        refine ⟨fun z => absurd hs (by simpa only [Int.toNat_natCast] using z.2.2), fun _ => ⟨?_, hF0⟩⟩
        rw [if_pos hs, if_pos ⟨hT, hLL⟩]
    · skip
      have hLL : ¬ (0 ≤ l ∧ l < M0 212 2) := by split at h4 <;> omega
      refine Ev.bipush (q := 28) dX12_lists_26 kb_m2 rfl ?_
      refine rI dX12_lists_28 rfl ?_
      refine ⟨fun z => absurd z.2.1 hLL, fun _ => ⟨?_, hF0⟩⟩
      rw [if_neg (fun z => hLL z.2)]
