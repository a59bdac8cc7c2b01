/-! ===== the reference: deeds ===== -/
def upg (g : Nat → Int) (k : Nat) (x : Int) : Nat → Int := fun j => if j = k then x else g j
theorem up_row (m : Mem) (a k : Nat) (x : Int) : up m a k x a = upg (m a) k x := by
  funext j
  unfold up upg
  by_cases h : j = k <;> simp [h]
theorem upg_eq (g : Nat → Int) (k : Nat) (x : Int) : upg g k x k = x := by simp [upg]
theorem upg_ne (g : Nat → Int) {k j : Nat} (x : Int) (h : j ≠ k) : upg g k x j = g j := by simp [upg, h]
def s212 (a k : Nat) : Bool := a == 212
def s218 (a k : Nat) : Bool := a == 218
def isL (g : Nat → Int) (l : Int) : Bool := decide (0 ≤ l ∧ l < g 2)
def isP (g : Nat → Int) (p : Int) : Bool := decide (0 ≤ p ∧ p < g 3)
def isF (g : Nat → Int) (f : Int) : Bool := decide (0 ≤ f ∧ f < g 1)
def whyP (g : Nat → Int) (l f : Int) (off : Bool) : Int := if isL g l = false ∨ isF g f = false then 1 else
  if off = true then (if (litV g l.toNat).testBit f.toNat = true then 0 else 2) else (if (litV g l.toNat).testBit f.toNat = true ∨ g (60 + l.toNat) = f then 2 else 0)
def whyR (g : Nat → Int) (l : Int) : Int := if isL g l = false then 1 else if litV g l.toNat = 0 then 2 else 0
def whyO (g : Nat → Int) (p : Int) : Int := if isP g p = false then 1 else if g (88 + p.toNat) = -1 then 2 else 0
def whyI (g : Nat → Int) (p l : Int) : Int := if isP g p = false ∨ isL g l = false then 1 else if g (88 + p.toNat) = -1 then (if g (60 + l.toNat) = g (72 + p.toNat) then 0 else 3) else 2
def whyW (g : Nat → Int) (p f : Int) : Int := if isP g p = false ∨ isF g f = false then 1 else if ¬ g (88 + p.toNat) = -1 ∨ g (72 + p.toNat) = f then 2 else 0
set_option maxRecDepth 4000 in
theorem l_X12_keeps {Γ : Gm} {d : Nat} {m0 : Mem} : ∀ (n k : Nat), k + n = 36 → ∀ (m : Mem), (∀ j, j < k → m 218 j = m0 212 (60 + j)) ∧ Fr s218 m0 m → Em Γ (d + 0) MX12_keeps (fun r m' => (∀ k, k < 36 → m' 218 k = m0 212 (60 + k)) ∧ Fr s218 m0 m') 2 [rv 211, iv k] [] m := by
  intro n
  induction n with
  | zero =>
    intro k hk m ⟨hv, hF0⟩
    obtain rfl : k = 36 := by omega
    refine Ev.iload_n (q := 3) dX12_keeps_2 rfl rfl ?_
    refine Ev.bipush (q := 5) dX12_keeps_3 kb_36 rfl ?_
    refine Ev.icmp_ge (tgt := 29) (q := 8) dX12_keeps_5 (by decide) rfl (fun h1 => ?_) (fun h1 => ?_)
    · skip
      refine rV dX12_keeps_29 rfl ?_
      exact ⟨fun j hj => hv j (by omega), hF0⟩
    · skip
      omega
  | succ n ih =>
    intro k hk m ⟨hv, hF0⟩
    refine Ev.iload_n (q := 3) dX12_keeps_2 rfl rfl ?_
    refine Ev.bipush (q := 5) dX12_keeps_3 kb_36 rfl ?_
    refine Ev.icmp_ge (tgt := 29) (q := 8) dX12_keeps_5 (by decide) rfl (fun h1 => ?_) (fun h1 => ?_)
    · skip
      omega
    · skip
      refine Ev.aload_n (q := 9) dX12_keeps_8 rfl rfl ?_
      refine gR (q := 12) dX12_keeps_9 gfX12_36 k211 r211_24 rfl rfl ?_
      refine Ev.iload_n (q := 13) dX12_keeps_12 rfl rfl ?_
      refine Ev.aload_n (q := 14) dX12_keeps_13 rfl rfl ?_
      refine gR (q := 17) dX12_keeps_14 gfX12_13 k211 r211_1 rfl rfl ?_
      refine Ev.bipush (q := 19) dX12_keeps_17 kb_60 rfl ?_
      refine Ev.iload_n (q := 20) dX12_keeps_19 rfl rfl ?_
      refine Ev.iadd (q := 21) dX12_keeps_20 rfl ?_
      refine aI (q := 22) (k := 60 + k) dX12_keeps_21 k212 (by first | rfl | omega | (simp (disch := omega) only [w32_of]; omega)) (by omega) rfl ?_
      refine sI (q := 23) (k := k) dX12_keeps_22 k218 (by first | rfl | omega | (simp (disch := omega) only [w32_of]; omega)) (by omega) rfl ?_
      refine iinc_1 (q := 26) dX12_keeps_23 rfl rfl rfl ?_
      refine Ev.goto (q := 2) dX12_keeps_26 (by decide) ?_
      rw [w32_of (by omega) (by omega)]
      refine ih (k + 1) (by omega) _ ⟨fun j hj => ?_, hF0.up rfl⟩
      by_cases hjk : j = k
      · rw [hjk, up_eq]; exact hF0 212 _ rfl
      · rw [up_k _ _ hjk]; exact hv j (by omega)
set_option maxRecDepth 4000 in
theorem p_X12_keeps {Γ : Gm} {d : Nat} {m : Mem}  : Ci Γ (d + 0) MX12_keeps [rv 211] m (fun r m' => (∀ k, k < 36 → m' 218 k = m 212 (60 + k)) ∧ Fr s218 m m') := by
  refine Ci.of moX12_keeps rfl rfl (fun hA hM => ?_)
  show Em Γ (d + 0) MX12_keeps _ 0 [rv 211, uv] [] m
  refine Ev.iconst (q := 1) dX12_keeps_0 ki_0 rfl ?_
  refine istore_n_1 (q := 2) dX12_keeps_1 rfl rfl rfl ?_
  exact l_X12_keeps 36 0 (by omega) m ⟨fun j hj => absurd hj (by omega), Fr.rf _ _⟩
set_option maxRecDepth 4000 in
theorem l_X12_isAgain {Γ : Gm} {d : Nat} {m0 : Mem} : ∀ (n k : Nat), k + n = 36 → ∀ (m : Mem), (∀ j, m 212 j = if 60 ≤ j ∧ j < 60 + k then m0 218 (j - 60) else m0 212 j) ∧ Fr s212 m0 m → Em Γ (d + 0) MX12_isAgain (fun r m' => (∀ j, m' 212 j = if 60 ≤ j ∧ j < 96 then m0 218 (j - 60) else m0 212 j) ∧ Fr s212 m0 m') 2 [rv 211, iv k] [] m := by
  intro n
  induction n with
  | zero =>
    intro k hk m ⟨hv, hF0⟩
    obtain rfl : k = 36 := by omega
    refine Ev.iload_n (q := 3) dX12_isAgain_2 rfl rfl ?_
    refine Ev.bipush (q := 5) dX12_isAgain_3 kb_36 rfl ?_
    refine Ev.icmp_ge (tgt := 29) (q := 8) dX12_isAgain_5 (by decide) rfl (fun h1 => ?_) (fun h1 => ?_)
    · skip
      refine rV dX12_isAgain_29 rfl ?_
      exact ⟨fun j => by rw [hv j], hF0⟩
    · skip
      omega
  | succ n ih =>
    intro k hk m ⟨hv, hF0⟩
    refine Ev.iload_n (q := 3) dX12_isAgain_2 rfl rfl ?_
    refine Ev.bipush (q := 5) dX12_isAgain_3 kb_36 rfl ?_
    refine Ev.icmp_ge (tgt := 29) (q := 8) dX12_isAgain_5 (by decide) rfl (fun h1 => ?_) (fun h1 => ?_)
    · skip
      omega
    · skip
      refine Ev.aload_n (q := 9) dX12_isAgain_8 rfl rfl ?_
      refine gR (q := 12) dX12_isAgain_9 gfX12_13 k211 r211_1 rfl rfl ?_
      refine Ev.bipush (q := 14) dX12_isAgain_12 kb_60 rfl ?_
      refine Ev.iload_n (q := 15) dX12_isAgain_14 rfl rfl ?_
      refine Ev.iadd (q := 16) dX12_isAgain_15 rfl ?_
      refine Ev.aload_n (q := 17) dX12_isAgain_16 rfl rfl ?_
      refine gR (q := 20) dX12_isAgain_17 gfX12_36 k211 r211_24 rfl rfl ?_
      refine Ev.iload_n (q := 21) dX12_isAgain_20 rfl rfl ?_
      refine aI (q := 22) (k := k) dX12_isAgain_21 k218 (by first | rfl | omega | (simp (disch := omega) only [w32_of]; omega)) (by omega) rfl ?_
      refine sI (q := 23) (k := 60 + k) dX12_isAgain_22 k212 (by first | rfl | omega | (simp (disch := omega) only [w32_of]; omega)) (by omega) rfl ?_
      refine iinc_1 (q := 26) dX12_isAgain_23 rfl rfl rfl ?_
      refine Ev.goto (q := 2) dX12_isAgain_26 (by decide) ?_
      rw [w32_of (z := (k : Int) + 1) (by omega) (by omega)]
      refine ih (k + 1) (by omega) _ ⟨fun j => ?_, hF0.up rfl⟩
      by_cases hjk : j = 60 + k
      · rw [hjk, up_eq, if_pos (by omega), hF0 218 _ rfl]; congr 1; omega
      · rw [up_k _ _ hjk, hv j]
        by_cases hq : 60 ≤ j ∧ j < 60 + k
        · rw [if_pos hq, if_pos (by omega)]
        · rw [if_neg hq, if_neg (by omega)]
set_option maxRecDepth 4000 in
theorem p_X12_isAgain {Γ : Gm} {d : Nat} {m : Mem}  : Ci Γ (d + 0) MX12_isAgain [rv 211] m (fun r m' => (∀ j, m' 212 j = if 60 ≤ j ∧ j < 96 then m 218 (j - 60) else m 212 j) ∧ Fr s212 m m') := by
  refine Ci.of moX12_isAgain rfl rfl (fun hA hM => ?_)
  show Em Γ (d + 0) MX12_isAgain _ 0 [rv 211, uv] [] m
  refine Ev.iconst (q := 1) dX12_isAgain_0 ki_0 rfl ?_
  refine istore_n_1 (q := 2) dX12_isAgain_1 rfl rfl rfl ?_
  exact l_X12_isAgain 36 0 (by omega) m ⟨fun j => by rw [if_neg (by omega)], Fr.rf _ _⟩
set_option maxRecDepth 4000 in
theorem p_X12_whyPress_true {Γ : Gm} {d : Nat} {m : Mem} (l f : Int) (hI : HI (m 212)) : Ci Γ (d + 2) MX12_whyPress [rv 211, jv l, jv f, iv 1] m (fun r m' => r = whyP (m 212) l f true ∧ m' = m) := by
  refine Ci.of moX12_whyPress rfl rfl (fun hA hM => ?_)
  show Em Γ (d + 2) MX12_whyPress _ 0 [rv 211, jv l, uv, jv f, uv, iv 1] [] m
  refine Ev.aload_n (q := 1) dX12_whyPress_0 rfl rfl ?_
  refine Ev.lload_n (q := 2) dX12_whyPress_1 rfl rfl ?_
  refine cV1i (q := 5) (d' := d + 1) dX12_whyPress_2 mlX12_230 moX12_isLift mvX12_isLift k211 rfl rfl rfl (Nat.le_refl _) rfl rfl rfl (p_X12_isLift l (by have := hI.2.1; omega)) (fun r1 m1 e1 => ?_)
  obtain ⟨rfl, e1⟩ := e1
  obtain rfl := e1.symm
  refine Ev.if_eq (tgt := 16) (q := 8) dX12_whyPress_5 (by decide) rfl (fun h2 => ?_) (fun h2 => ?_)
  · skip
    have hLL : ¬ (0 ≤ l ∧ l < m 212 2) := by split at h2 <;> omega
    refine Ev.iconst (q := 17) dX12_whyPress_16 ki_1 rfl ?_
    refine rI dX12_whyPress_17 rfl ?_
    refine ⟨?_, rfl⟩
    unfold whyP isL isF
    rw [if_pos (by simp only [decide_eq_false_iff_not]; first | exact Or.inl (by assumption) | exact Or.inr (by assumption))]
  · skip
    have hLL : 0 ≤ l ∧ l < m 212 2 := by split at h2 <;> omega
    obtain ⟨ln, rfl⟩ : ∃ ln : Nat, l = ln := ⟨l.toNat, by omega⟩
    have hL3 := hI.2.1
    have hlift := hI.lift (l := ln) (by omega)
    have e66 : m 212 (66 + ln) = ((litV (m 212) ln : Nat) : Int) := by unfold litV; have := hlift.2.1.1; omega
    have hlok := hI.litOk (l := ln) (by omega)
    refine Ev.aload_n (q := 9) dX12_whyPress_8 rfl rfl ?_
    refine Ev.lload_n (q := 10) dX12_whyPress_9 rfl rfl ?_
    refine cV1i (q := 13) (d' := d + 1) dX12_whyPress_10 mlX12_243 moX12_isFloor mvX12_isFloor k211 rfl rfl rfl (Nat.le_refl _) rfl rfl rfl (p_X12_isFloor f (by have := hI.1; omega)) (fun r3 m3 e3 => ?_)
    obtain ⟨rfl, e3⟩ := e3
    obtain rfl := e3.symm
    refine Ev.if_ne (tgt := 18) (q := 16) dX12_whyPress_13 (by decide) rfl (fun h4 => ?_) (fun h4 => ?_)
    · skip
      have hFF : 0 ≤ f ∧ f < m 212 1 := by split at h4 <;> omega
      obtain ⟨fn, rfl⟩ : ∃ fn : Nat, f = fn := ⟨f.toNat, by omega⟩
      have hF12 := hI.1
      refine Ev.iload (q := 20) dX12_whyPress_18 rfl rfl ?_
      refine Ev.if_eq (tgt := 48) (q := 23) dX12_whyPress_20 (by decide) rfl (fun h5 => ?_) (fun h5 => ?_)
      · skip
        omega
      · skip
        refine Ev.aload_n (q := 24) dX12_whyPress_23 rfl rfl ?_
        refine gR (q := 27) dX12_whyPress_24 gfX12_13 k211 r211_1 rfl rfl ?_
        refine Ev.bipush (q := 29) dX12_whyPress_27 kb_66 rfl ?_
        refine Ev.lload_n (q := 30) dX12_whyPress_29 rfl rfl ?_
        refine Ev.l2i (q := 31) dX12_whyPress_30 rfl ?_
        refine Ev.iadd (q := 32) dX12_whyPress_31 rfl ?_
        refine aI (q := 33) (k := 66 + ln) dX12_whyPress_32 k212 (by first | rfl | omega | (simp (disch := omega) only [w32_of]; omega)) (by omega) rfl ?_
        rw [e66]
        refine Ev.i2l (q := 34) dX12_whyPress_33 rfl ?_
        refine Ev.lload_n (q := 35) dX12_whyPress_34 rfl rfl ?_
        refine Ev.l2i (q := 36) dX12_whyPress_35 rfl ?_
        rw [w32_of (by omega) (by omega)]
        refine cS2i (q := 39) (d' := d + 1) dX12_whyPress_36 mlX12_207 moX12_isIn msX12_isIn rfl rfl (Nat.le_refl _) rfl rfl rfl (p_X12_isIn (litV (m 212) ln) fn (hlok.lt hI) (by omega)) (fun r6 m6 e6 => ?_)
        obtain ⟨rfl, e6⟩ := e6
        obtain rfl := e6.symm
        refine Ev.if_eq (tgt := 46) (q := 42) dX12_whyPress_39 (by decide) rfl (fun h7 => ?_) (fun h7 => ?_)
        · skip
          refine Ev.iconst (q := 47) dX12_whyPress_46 ki_2 rfl ?_
          refine rI dX12_whyPress_47 rfl ?_
          refine ⟨?_, rfl⟩
          unfold whyP isL isF
          rw [if_neg (by simp only [decide_eq_false_iff_not]; omega)]
          simp only [Int.toNat_natCast]
          simp only [if_true]
          by_cases hb : (litV (m 212) ln).testBit fn = true <;> simp_all
        · skip
          refine Ev.iconst (q := 43) dX12_whyPress_42 ki_0 rfl ?_
          refine Ev.goto (q := 47) dX12_whyPress_43 (by decide) ?_
          refine rI dX12_whyPress_47 rfl ?_
          refine ⟨?_, rfl⟩
          unfold whyP isL isF
          rw [if_neg (by simp only [decide_eq_false_iff_not]; omega)]
          simp only [Int.toNat_natCast]
          simp only [if_true]
          by_cases hb : (litV (m 212) ln).testBit fn = true <;> simp_all
    · skip
      have hFF : ¬ (0 ≤ f ∧ f < m 212 1) := by split at h4 <;> omega
      refine Ev.iconst (q := 17) dX12_whyPress_16 ki_1 rfl ?_
      refine rI dX12_whyPress_17 rfl ?_
      refine ⟨?_, rfl⟩
      unfold whyP isL isF
      rw [if_pos (by simp only [decide_eq_false_iff_not]; first | exact Or.inl (by assumption) | exact Or.inr (by assumption))]
set_option maxRecDepth 4000 in
theorem p_X12_whyPress_false {Γ : Gm} {d : Nat} {m : Mem} (l f : Int) (hI : HI (m 212)) : Ci Γ (d + 2) MX12_whyPress [rv 211, jv l, jv f, iv 0] m (fun r m' => r = whyP (m 212) l f false ∧ m' = m) := by
  refine Ci.of moX12_whyPress rfl rfl (fun hA hM => ?_)
  show Em Γ (d + 2) MX12_whyPress _ 0 [rv 211, jv l, uv, jv f, uv, iv 0] [] m
  refine Ev.aload_n (q := 1) dX12_whyPress_0 rfl rfl ?_
  refine Ev.lload_n (q := 2) dX12_whyPress_1 rfl rfl ?_
  refine cV1i (q := 5) (d' := d + 1) dX12_whyPress_2 mlX12_230 moX12_isLift mvX12_isLift k211 rfl rfl rfl (Nat.le_refl _) rfl rfl rfl (p_X12_isLift l (by have := hI.2.1; omega)) (fun r1 m1 e1 => ?_)
  obtain ⟨rfl, e1⟩ := e1
  obtain rfl := e1.symm
  refine Ev.if_eq (tgt := 16) (q := 8) dX12_whyPress_5 (by decide) rfl (fun h2 => ?_) (fun h2 => ?_)
  · skip
    have hLL : ¬ (0 ≤ l ∧ l < m 212 2) := by split at h2 <;> omega
    refine Ev.iconst (q := 17) dX12_whyPress_16 ki_1 rfl ?_
    refine rI dX12_whyPress_17 rfl ?_
    refine ⟨?_, rfl⟩
    unfold whyP isL isF
    rw [if_pos (by simp only [decide_eq_false_iff_not]; first | exact Or.inl (by assumption) | exact Or.inr (by assumption))]
  · skip
    have hLL : 0 ≤ l ∧ l < m 212 2 := by split at h2 <;> omega
    obtain ⟨ln, rfl⟩ : ∃ ln : Nat, l = ln := ⟨l.toNat, by omega⟩
    have hL3 := hI.2.1
    have hlift := hI.lift (l := ln) (by omega)
    have e66 : m 212 (66 + ln) = ((litV (m 212) ln : Nat) : Int) := by unfold litV; have := hlift.2.1.1; omega
    have hlok := hI.litOk (l := ln) (by omega)
    refine Ev.aload_n (q := 9) dX12_whyPress_8 rfl rfl ?_
    refine Ev.lload_n (q := 10) dX12_whyPress_9 rfl rfl ?_
    refine cV1i (q := 13) (d' := d + 1) dX12_whyPress_10 mlX12_243 moX12_isFloor mvX12_isFloor k211 rfl rfl rfl (Nat.le_refl _) rfl rfl rfl (p_X12_isFloor f (by have := hI.1; omega)) (fun r3 m3 e3 => ?_)
    obtain ⟨rfl, e3⟩ := e3
    obtain rfl := e3.symm
    refine Ev.if_ne (tgt := 18) (q := 16) dX12_whyPress_13 (by decide) rfl (fun h4 => ?_) (fun h4 => ?_)
    · skip
      have hFF : 0 ≤ f ∧ f < m 212 1 := by split at h4 <;> omega
      obtain ⟨fn, rfl⟩ : ∃ fn : Nat, f = fn := ⟨f.toNat, by omega⟩
      have hF12 := hI.1
      refine Ev.iload (q := 20) dX12_whyPress_18 rfl rfl ?_
      refine Ev.if_eq (tgt := 48) (q := 23) dX12_whyPress_20 (by decide) rfl (fun h5 => ?_) (fun h5 => ?_)
      · skip
        refine Ev.aload_n (q := 49) dX12_whyPress_48 rfl rfl ?_
        refine gR (q := 52) dX12_whyPress_49 gfX12_13 k211 r211_1 rfl rfl ?_
        refine Ev.bipush (q := 54) dX12_whyPress_52 kb_66 rfl ?_
        refine Ev.lload_n (q := 55) dX12_whyPress_54 rfl rfl ?_
        refine Ev.l2i (q := 56) dX12_whyPress_55 rfl ?_
        refine Ev.iadd (q := 57) dX12_whyPress_56 rfl ?_
        refine aI (q := 58) (k := 66 + ln) dX12_whyPress_57 k212 (by first | rfl | omega | (simp (disch := omega) only [w32_of]; omega)) (by omega) rfl ?_
        rw [e66]
        refine Ev.i2l (q := 59) dX12_whyPress_58 rfl ?_
        refine Ev.lload_n (q := 60) dX12_whyPress_59 rfl rfl ?_
        refine Ev.l2i (q := 61) dX12_whyPress_60 rfl ?_
        rw [w32_of (by omega) (by omega)]
        refine cS2i (q := 64) (d' := d + 1) dX12_whyPress_61 mlX12_207 moX12_isIn msX12_isIn rfl rfl (Nat.le_refl _) rfl rfl rfl (p_X12_isIn (litV (m 212) ln) fn (hlok.lt hI) (by omega)) (fun r6 m6 e6 => ?_)
        obtain ⟨rfl, e6⟩ := e6
        obtain rfl := e6.symm
        refine Ev.if_ne (tgt := 83) (q := 67) dX12_whyPress_64 (by decide) rfl (fun h7 => ?_) (fun h7 => ?_)
        · skip
          refine Ev.iconst (q := 84) dX12_whyPress_83 ki_2 rfl ?_
          refine Ev.goto (q := 88) dX12_whyPress_84 (by decide) ?_
          refine rI dX12_whyPress_88 rfl ?_
          refine ⟨?_, rfl⟩
          unfold whyP isL isF
          rw [if_neg (by simp only [decide_eq_false_iff_not]; omega)]
          simp only [Int.toNat_natCast]
          simp only [Bool.false_eq_true, if_false]
          by_cases hb : (litV (m 212) ln).testBit fn = true <;> simp_all
        · skip
          refine Ev.aload_n (q := 68) dX12_whyPress_67 rfl rfl ?_
          refine gR (q := 71) dX12_whyPress_68 gfX12_13 k211 r211_1 rfl rfl ?_
          refine Ev.bipush (q := 73) dX12_whyPress_71 kb_60 rfl ?_
          refine Ev.lload_n (q := 74) dX12_whyPress_73 rfl rfl ?_
          refine Ev.l2i (q := 75) dX12_whyPress_74 rfl ?_
          refine Ev.iadd (q := 76) dX12_whyPress_75 rfl ?_
          refine aI (q := 77) (k := 60 + ln) dX12_whyPress_76 k212 (by first | rfl | omega | (simp (disch := omega) only [w32_of]; omega)) (by omega) rfl ?_
          refine Ev.i2l (q := 78) dX12_whyPress_77 rfl ?_
          refine Ev.lload_n (q := 79) dX12_whyPress_78 rfl rfl ?_
          refine Em.ok (fun hL9 hS9 hM9 => ?_)
          have q1 := okV_j (okA_0 hS9)
          have q2 := okV_j (okA_1 hS9)
          refine Ev.lcmp (q := 80) dX12_whyPress_79 rfl ?_
          refine Ev.if_ne (tgt := 87) (q := 83) dX12_whyPress_80 (by decide) rfl (fun h8 => ?_) (fun h8 => ?_)
          · skip
            rw [lcmp_z q2 q1] at h8
            refine Ev.iconst (q := 88) dX12_whyPress_87 ki_0 rfl ?_
            refine rI dX12_whyPress_88 rfl ?_
            refine ⟨?_, rfl⟩
            unfold whyP isL isF
            rw [if_neg (by simp only [decide_eq_false_iff_not]; omega)]
            simp only [Int.toNat_natCast]
            simp only [Bool.false_eq_true, if_false]
            by_cases hb : (litV (m 212) ln).testBit fn = true <;> simp_all
          · skip
            rw [lcmp_z q2 q1] at h8
            refine Ev.iconst (q := 84) dX12_whyPress_83 ki_2 rfl ?_
            refine Ev.goto (q := 88) dX12_whyPress_84 (by decide) ?_
            refine rI dX12_whyPress_88 rfl ?_
            refine ⟨?_, rfl⟩
            unfold whyP isL isF
            rw [if_neg (by simp only [decide_eq_false_iff_not]; omega)]
            simp only [Int.toNat_natCast]
            simp only [Bool.false_eq_true, if_false]
            by_cases hb : (litV (m 212) ln).testBit fn = true <;> simp_all
      · skip
        omega
    · skip
      have hFF : ¬ (0 ≤ f ∧ f < m 212 1) := by split at h4 <;> omega
      refine Ev.iconst (q := 17) dX12_whyPress_16 ki_1 rfl ?_
      refine rI dX12_whyPress_17 rfl ?_
      refine ⟨?_, rfl⟩
      unfold whyP isL isF
      rw [if_pos (by simp only [decide_eq_false_iff_not]; first | exact Or.inl (by assumption) | exact Or.inr (by assumption))]
set_option maxRecDepth 4000 in
theorem p_X12_whyRide {Γ : Gm} {d : Nat} {m : Mem} (l : Int) (hI : HI (m 212)) : Ci Γ (d + 2) MX12_whyRide [rv 211, jv l] m (fun r m' => r = whyR (m 212) l ∧ m' = m) := by
  refine Ci.of moX12_whyRide rfl rfl (fun hA hM => ?_)
  show Em Γ (d + 2) MX12_whyRide _ 0 [rv 211, jv l, uv] [] m
  refine Ev.aload_n (q := 1) dX12_whyRide_0 rfl rfl ?_
  refine Ev.lload_n (q := 2) dX12_whyRide_1 rfl rfl ?_
  refine cV1i (q := 5) (d' := d + 1) dX12_whyRide_2 mlX12_230 moX12_isLift mvX12_isLift k211 rfl rfl rfl (Nat.le_refl _) rfl rfl rfl (p_X12_isLift l (by have := hI.2.1; omega)) (fun r1 m1 e1 => ?_)
  obtain ⟨rfl, e1⟩ := e1
  obtain rfl := e1.symm
  refine Ev.if_ne (tgt := 12) (q := 8) dX12_whyRide_5 (by decide) rfl (fun h2 => ?_) (fun h2 => ?_)
  · skip
    have hLL : 0 ≤ l ∧ l < m 212 2 := by split at h2 <;> omega
    obtain ⟨ln, rfl⟩ : ∃ ln : Nat, l = ln := ⟨l.toNat, by omega⟩
    have hL3 := hI.2.1
    have hlift := hI.lift (l := ln) (by omega)
    have e66 : m 212 (66 + ln) = ((litV (m 212) ln : Nat) : Int) := by unfold litV; have := hlift.2.1.1; omega
    have hlok := hI.litOk (l := ln) (by omega)
    refine Ev.aload_n (q := 13) dX12_whyRide_12 rfl rfl ?_
    refine gR (q := 16) dX12_whyRide_13 gfX12_13 k211 r211_1 rfl rfl ?_
    refine Ev.bipush (q := 18) dX12_whyRide_16 kb_66 rfl ?_
    refine Ev.lload_n (q := 19) dX12_whyRide_18 rfl rfl ?_
    refine Ev.l2i (q := 20) dX12_whyRide_19 rfl ?_
    refine Ev.iadd (q := 21) dX12_whyRide_20 rfl ?_
    refine aI (q := 22) (k := 66 + ln) dX12_whyRide_21 k212 (by first | rfl | omega | (simp (disch := omega) only [w32_of]; omega)) (by omega) rfl ?_
    rw [e66]
    refine Ev.if_ne (tgt := 29) (q := 25) dX12_whyRide_22 (by decide) rfl (fun h3 => ?_) (fun h3 => ?_)
    · skip
      refine Ev.iconst (q := 30) dX12_whyRide_29 ki_0 rfl ?_
      refine rI dX12_whyRide_30 rfl ?_
      refine ⟨?_, rfl⟩
      unfold whyR isL
      rw [if_neg (by simp only [decide_eq_false_iff_not]; omega)]
      simp only [Int.toNat_natCast]
      rw [if_neg (by omega)]
    · skip
      refine Ev.iconst (q := 26) dX12_whyRide_25 ki_2 rfl ?_
      refine Ev.goto (q := 30) dX12_whyRide_26 (by decide) ?_
      refine rI dX12_whyRide_30 rfl ?_
      refine ⟨?_, rfl⟩
      unfold whyR isL
      rw [if_neg (by simp only [decide_eq_false_iff_not]; omega)]
      simp only [Int.toNat_natCast]
      rw [if_pos (by omega)]
  · skip
    have hLL : ¬ (0 ≤ l ∧ l < m 212 2) := by split at h2 <;> omega
    refine Ev.iconst (q := 9) dX12_whyRide_8 ki_1 rfl ?_
    refine Ev.goto (q := 30) dX12_whyRide_9 (by decide) ?_
    refine rI dX12_whyRide_30 rfl ?_
    refine ⟨?_, rfl⟩
    unfold whyR isL
    rw [if_pos (by simp only [decide_eq_false_iff_not]; first | assumption | exact Or.inl (by assumption) | exact Or.inr (by assumption))]
set_option maxRecDepth 4000 in
theorem p_X12_whyOut {Γ : Gm} {d : Nat} {m : Mem} (p : Int) (hI : HI (m 212)) : Ci Γ (d + 2) MX12_whyOut [rv 211, jv p] m (fun r m' => r = whyO (m 212) p ∧ m' = m) := by
  refine Ci.of moX12_whyOut rfl rfl (fun hA hM => ?_)
  show Em Γ (d + 2) MX12_whyOut _ 0 [rv 211, jv p, uv] [] m
  refine Ev.aload_n (q := 1) dX12_whyOut_0 rfl rfl ?_
  refine Ev.lload_n (q := 2) dX12_whyOut_1 rfl rfl ?_
  refine cV1i (q := 5) (d' := d + 1) dX12_whyOut_2 mlX12_240 moX12_isPerson mvX12_isPerson k211 rfl rfl rfl (Nat.le_refl _) rfl rfl rfl (p_X12_isPerson p (by have := hI.2.2.1; omega)) (fun r1 m1 e1 => ?_)
  obtain ⟨rfl, e1⟩ := e1
  obtain rfl := e1.symm
  refine Ev.if_ne (tgt := 12) (q := 8) dX12_whyOut_5 (by decide) rfl (fun h2 => ?_) (fun h2 => ?_)
  · skip
    have hPP : 0 ≤ p ∧ p < m 212 3 := by split at h2 <;> omega
    obtain ⟨pn, rfl⟩ : ∃ pn : Nat, p = pn := ⟨p.toNat, by omega⟩
    have hP8 := hI.2.2.1
    have hpers := hI.pers (p := pn) (by omega)
    refine Ev.aload_n (q := 13) dX12_whyOut_12 rfl rfl ?_
    refine gR (q := 16) dX12_whyOut_13 gfX12_13 k211 r211_1 rfl rfl ?_
    refine Ev.bipush (q := 18) dX12_whyOut_16 kb_88 rfl ?_
    refine Ev.lload_n (q := 19) dX12_whyOut_18 rfl rfl ?_
    refine Ev.l2i (q := 20) dX12_whyOut_19 rfl ?_
    refine Ev.iadd (q := 21) dX12_whyOut_20 rfl ?_
    refine aI (q := 22) (k := 88 + pn) dX12_whyOut_21 k212 (by first | rfl | omega | (simp (disch := omega) only [w32_of]; omega)) (by omega) rfl ?_
    refine Ev.iconst (q := 23) dX12_whyOut_22 ki_m1 rfl ?_
    refine Ev.icmp_ne (tgt := 30) (q := 26) dX12_whyOut_23 (by decide) rfl (fun h3 => ?_) (fun h3 => ?_)
    · skip
      refine Ev.iconst (q := 31) dX12_whyOut_30 ki_0 rfl ?_
      refine rI dX12_whyOut_31 rfl ?_
      refine ⟨?_, rfl⟩
      unfold whyO isP
      rw [if_neg (by simp only [decide_eq_false_iff_not]; omega)]
      simp only [Int.toNat_natCast]
      rw [if_neg (by assumption)]
    · skip
      refine Ev.iconst (q := 27) dX12_whyOut_26 ki_2 rfl ?_
      refine Ev.goto (q := 31) dX12_whyOut_27 (by decide) ?_
      refine rI dX12_whyOut_31 rfl ?_
      refine ⟨?_, rfl⟩
      unfold whyO isP
      rw [if_neg (by simp only [decide_eq_false_iff_not]; omega)]
      simp only [Int.toNat_natCast]
      rw [if_pos (by assumption)]
  · skip
    have hPP : ¬ (0 ≤ p ∧ p < m 212 3) := by split at h2 <;> omega
    refine Ev.iconst (q := 9) dX12_whyOut_8 ki_1 rfl ?_
    refine Ev.goto (q := 31) dX12_whyOut_9 (by decide) ?_
    refine rI dX12_whyOut_31 rfl ?_
    refine ⟨?_, rfl⟩
    unfold whyO isP
    rw [if_pos (by simp only [decide_eq_false_iff_not]; first | assumption | exact Or.inl (by assumption) | exact Or.inr (by assumption))]
set_option maxRecDepth 4000 in
theorem p_X12_whyIn {Γ : Gm} {d : Nat} {m : Mem} (p l : Int) (hI : HI (m 212)) : Ci Γ (d + 2) MX12_whyIn [rv 211, jv p, jv l] m (fun r m' => r = whyI (m 212) p l ∧ m' = m) := by
  refine Ci.of moX12_whyIn rfl rfl (fun hA hM => ?_)
  show Em Γ (d + 2) MX12_whyIn _ 0 [rv 211, jv p, uv, jv l, uv] [] m
  refine Ev.aload_n (q := 1) dX12_whyIn_0 rfl rfl ?_
  refine Ev.lload_n (q := 2) dX12_whyIn_1 rfl rfl ?_
  refine cV1i (q := 5) (d' := d + 1) dX12_whyIn_2 mlX12_240 moX12_isPerson mvX12_isPerson k211 rfl rfl rfl (Nat.le_refl _) rfl rfl rfl (p_X12_isPerson p (by have := hI.2.2.1; omega)) (fun r1 m1 e1 => ?_)
  obtain ⟨rfl, e1⟩ := e1
  obtain rfl := e1.symm
  refine Ev.if_eq (tgt := 16) (q := 8) dX12_whyIn_5 (by decide) rfl (fun h2 => ?_) (fun h2 => ?_)
  · skip
    have hPP : ¬ (0 ≤ p ∧ p < m 212 3) := by split at h2 <;> omega
    refine Ev.iconst (q := 17) dX12_whyIn_16 ki_1 rfl ?_
    refine rI dX12_whyIn_17 rfl ?_
    refine ⟨?_, rfl⟩
    unfold whyI isP isL
    rw [if_pos (by simp only [decide_eq_false_iff_not]; first | assumption | exact Or.inl (by assumption) | exact Or.inr (by assumption))]
  · skip
    have hPP : 0 ≤ p ∧ p < m 212 3 := by split at h2 <;> omega
    obtain ⟨pn, rfl⟩ : ∃ pn : Nat, p = pn := ⟨p.toNat, by omega⟩
    have hP8 := hI.2.2.1
    have hpers := hI.pers (p := pn) (by omega)
    refine Ev.aload_n (q := 9) dX12_whyIn_8 rfl rfl ?_
    refine Ev.lload_n (q := 10) dX12_whyIn_9 rfl rfl ?_
    refine cV1i (q := 13) (d' := d + 1) dX12_whyIn_10 mlX12_230 moX12_isLift mvX12_isLift k211 rfl rfl rfl (Nat.le_refl _) rfl rfl rfl (p_X12_isLift l (by have := hI.2.1; omega)) (fun r3 m3 e3 => ?_)
    obtain ⟨rfl, e3⟩ := e3
    obtain rfl := e3.symm
    refine Ev.if_ne (tgt := 18) (q := 16) dX12_whyIn_13 (by decide) rfl (fun h4 => ?_) (fun h4 => ?_)
    · skip
      have hLL : 0 ≤ l ∧ l < m 212 2 := by split at h4 <;> omega
      obtain ⟨ln, rfl⟩ : ∃ ln : Nat, l = ln := ⟨l.toNat, by omega⟩
      have hL3 := hI.2.1
      have hlift := hI.lift (l := ln) (by omega)
      have e66 : m 212 (66 + ln) = ((litV (m 212) ln : Nat) : Int) := by unfold litV; have := hlift.2.1.1; omega
      have hlok := hI.litOk (l := ln) (by omega)
      refine Ev.aload_n (q := 19) dX12_whyIn_18 rfl rfl ?_
      refine gR (q := 22) dX12_whyIn_19 gfX12_13 k211 r211_1 rfl rfl ?_
      refine Ev.bipush (q := 24) dX12_whyIn_22 kb_88 rfl ?_
      refine Ev.lload_n (q := 25) dX12_whyIn_24 rfl rfl ?_
      refine Ev.l2i (q := 26) dX12_whyIn_25 rfl ?_
      refine Ev.iadd (q := 27) dX12_whyIn_26 rfl ?_
      refine aI (q := 28) (k := 88 + pn) dX12_whyIn_27 k212 (by first | rfl | omega | (simp (disch := omega) only [w32_of]; omega)) (by omega) rfl ?_
      refine Ev.iconst (q := 29) dX12_whyIn_28 ki_m1 rfl ?_
      refine Ev.icmp_eq (tgt := 36) (q := 32) dX12_whyIn_29 (by decide) rfl (fun h5 => ?_) (fun h5 => ?_)
      · skip
        refine Ev.aload_n (q := 37) dX12_whyIn_36 rfl rfl ?_
        refine gR (q := 40) dX12_whyIn_37 gfX12_13 k211 r211_1 rfl rfl ?_
        refine Ev.bipush (q := 42) dX12_whyIn_40 kb_60 rfl ?_
        refine Ev.lload_n (q := 43) dX12_whyIn_42 rfl rfl ?_
        refine Ev.l2i (q := 44) dX12_whyIn_43 rfl ?_
        refine Ev.iadd (q := 45) dX12_whyIn_44 rfl ?_
        refine aI (q := 46) (k := 60 + ln) dX12_whyIn_45 k212 (by first | rfl | omega | (simp (disch := omega) only [w32_of]; omega)) (by omega) rfl ?_
        refine Ev.aload_n (q := 47) dX12_whyIn_46 rfl rfl ?_
        refine gR (q := 50) dX12_whyIn_47 gfX12_13 k211 r211_1 rfl rfl ?_
        refine Ev.bipush (q := 52) dX12_whyIn_50 kb_72 rfl ?_
        refine Ev.lload_n (q := 53) dX12_whyIn_52 rfl rfl ?_
        refine Ev.l2i (q := 54) dX12_whyIn_53 rfl ?_
        refine Ev.iadd (q := 55) dX12_whyIn_54 rfl ?_
        refine aI (q := 56) (k := 72 + pn) dX12_whyIn_55 k212 (by first | rfl | omega | (simp (disch := omega) only [w32_of]; omega)) (by omega) rfl ?_
        refine Ev.icmp_ne (tgt := 63) (q := 59) dX12_whyIn_56 (by decide) rfl (fun h6 => ?_) (fun h6 => ?_)
        · skip
          refine Ev.iconst (q := 64) dX12_whyIn_63 ki_3 rfl ?_
          refine rI dX12_whyIn_64 rfl ?_
          refine ⟨?_, rfl⟩
          unfold whyI isP isL
          rw [if_neg (by simp only [decide_eq_false_iff_not]; omega)]
          simp only [Int.toNat_natCast]
          first | (rw [if_pos (by assumption)]; first | rw [if_pos (by assumption)] | rw [if_neg (by assumption)]) | rw [if_neg (by assumption)]
        · skip
          refine Ev.iconst (q := 60) dX12_whyIn_59 ki_0 rfl ?_
          refine Ev.goto (q := 64) dX12_whyIn_60 (by decide) ?_
          refine rI dX12_whyIn_64 rfl ?_
          refine ⟨?_, rfl⟩
          unfold whyI isP isL
          rw [if_neg (by simp only [decide_eq_false_iff_not]; omega)]
          simp only [Int.toNat_natCast]
          first | (rw [if_pos (by assumption)]; first | rw [if_pos (by assumption)] | rw [if_neg (by assumption)]) | rw [if_neg (by assumption)]
      · skip
        refine Ev.iconst (q := 33) dX12_whyIn_32 ki_2 rfl ?_
        refine Ev.goto (q := 64) dX12_whyIn_33 (by decide) ?_
        refine rI dX12_whyIn_64 rfl ?_
        refine ⟨?_, rfl⟩
        unfold whyI isP isL
        rw [if_neg (by simp only [decide_eq_false_iff_not]; omega)]
        simp only [Int.toNat_natCast]
        first | (rw [if_pos (by assumption)]; first | rw [if_pos (by assumption)] | rw [if_neg (by assumption)]) | rw [if_neg (by assumption)]
    · skip
      have hLL : ¬ (0 ≤ l ∧ l < m 212 2) := by split at h4 <;> omega
      refine Ev.iconst (q := 17) dX12_whyIn_16 ki_1 rfl ?_
      refine rI dX12_whyIn_17 rfl ?_
      refine ⟨?_, rfl⟩
      unfold whyI isP isL
      rw [if_pos (by simp only [decide_eq_false_iff_not]; first | assumption | exact Or.inl (by assumption) | exact Or.inr (by assumption))]
set_option maxRecDepth 4000 in
theorem p_X12_whyWalk {Γ : Gm} {d : Nat} {m : Mem} (p f : Int) (hI : HI (m 212)) : Ci Γ (d + 2) MX12_whyWalk [rv 211, jv p, jv f] m (fun r m' => r = whyW (m 212) p f ∧ m' = m) := by
  refine Ci.of moX12_whyWalk rfl rfl (fun hA hM => ?_)
  show Em Γ (d + 2) MX12_whyWalk _ 0 [rv 211, jv p, uv, jv f, uv] [] m
  refine Ev.aload_n (q := 1) dX12_whyWalk_0 rfl rfl ?_
  refine Ev.lload_n (q := 2) dX12_whyWalk_1 rfl rfl ?_
  refine cV1i (q := 5) (d' := d + 1) dX12_whyWalk_2 mlX12_240 moX12_isPerson mvX12_isPerson k211 rfl rfl rfl (Nat.le_refl _) rfl rfl rfl (p_X12_isPerson p (by have := hI.2.2.1; omega)) (fun r1 m1 e1 => ?_)
  obtain ⟨rfl, e1⟩ := e1
  obtain rfl := e1.symm
  refine Ev.if_eq (tgt := 16) (q := 8) dX12_whyWalk_5 (by decide) rfl (fun h2 => ?_) (fun h2 => ?_)
  · skip
    have hPP : ¬ (0 ≤ p ∧ p < m 212 3) := by split at h2 <;> omega
    refine Ev.iconst (q := 17) dX12_whyWalk_16 ki_1 rfl ?_
    refine rI dX12_whyWalk_17 rfl ?_
    refine ⟨?_, rfl⟩
    unfold whyW isP isF
    rw [if_pos (by simp only [decide_eq_false_iff_not]; first | assumption | exact Or.inl (by assumption) | exact Or.inr (by assumption))]
  · skip
    have hPP : 0 ≤ p ∧ p < m 212 3 := by split at h2 <;> omega
    obtain ⟨pn, rfl⟩ : ∃ pn : Nat, p = pn := ⟨p.toNat, by omega⟩
    have hP8 := hI.2.2.1
    have hpers := hI.pers (p := pn) (by omega)
    refine Ev.aload_n (q := 9) dX12_whyWalk_8 rfl rfl ?_
    refine Ev.lload_n (q := 10) dX12_whyWalk_9 rfl rfl ?_
    refine cV1i (q := 13) (d' := d + 1) dX12_whyWalk_10 mlX12_243 moX12_isFloor mvX12_isFloor k211 rfl rfl rfl (Nat.le_refl _) rfl rfl rfl (p_X12_isFloor f (by have := hI.1; omega)) (fun r3 m3 e3 => ?_)
    obtain ⟨rfl, e3⟩ := e3
    obtain rfl := e3.symm
    refine Ev.if_ne (tgt := 18) (q := 16) dX12_whyWalk_13 (by decide) rfl (fun h4 => ?_) (fun h4 => ?_)
    · skip
      have hFF : 0 ≤ f ∧ f < m 212 1 := by split at h4 <;> omega
      obtain ⟨fn, rfl⟩ : ∃ fn : Nat, f = fn := ⟨f.toNat, by omega⟩
      have hF12 := hI.1
      refine Ev.aload_n (q := 19) dX12_whyWalk_18 rfl rfl ?_
      refine gR (q := 22) dX12_whyWalk_19 gfX12_13 k211 r211_1 rfl rfl ?_
      refine Ev.bipush (q := 24) dX12_whyWalk_22 kb_88 rfl ?_
      refine Ev.lload_n (q := 25) dX12_whyWalk_24 rfl rfl ?_
      refine Ev.l2i (q := 26) dX12_whyWalk_25 rfl ?_
      refine Ev.iadd (q := 27) dX12_whyWalk_26 rfl ?_
      refine aI (q := 28) (k := 88 + pn) dX12_whyWalk_27 k212 (by first | rfl | omega | (simp (disch := omega) only [w32_of]; omega)) (by omega) rfl ?_
      refine Ev.iconst (q := 29) dX12_whyWalk_28 ki_m1 rfl ?_
      refine Ev.icmp_ne (tgt := 48) (q := 32) dX12_whyWalk_29 (by decide) rfl (fun h5 => ?_) (fun h5 => ?_)
      · skip
        refine Ev.iconst (q := 49) dX12_whyWalk_48 ki_2 rfl ?_
        refine Ev.goto (q := 53) dX12_whyWalk_49 (by decide) ?_
        refine rI dX12_whyWalk_53 rfl ?_
        refine ⟨?_, rfl⟩
        unfold whyW isP isF
        rw [if_neg (by simp only [decide_eq_false_iff_not]; omega)]
        simp only [Int.toNat_natCast]
        first | rw [if_pos (by first | exact Or.inl (by assumption) | exact Or.inr (by assumption))] | rw [if_neg (by intro z; rcases z with z | z <;> contradiction)]
      · skip
        refine Ev.aload_n (q := 33) dX12_whyWalk_32 rfl rfl ?_
        refine gR (q := 36) dX12_whyWalk_33 gfX12_13 k211 r211_1 rfl rfl ?_
        refine Ev.bipush (q := 38) dX12_whyWalk_36 kb_72 rfl ?_
        refine Ev.lload_n (q := 39) dX12_whyWalk_38 rfl rfl ?_
        refine Ev.l2i (q := 40) dX12_whyWalk_39 rfl ?_
        refine Ev.iadd (q := 41) dX12_whyWalk_40 rfl ?_
        refine aI (q := 42) (k := 72 + pn) dX12_whyWalk_41 k212 (by first | rfl | omega | (simp (disch := omega) only [w32_of]; omega)) (by omega) rfl ?_
        refine Ev.i2l (q := 43) dX12_whyWalk_42 rfl ?_
        refine Ev.lload_n (q := 44) dX12_whyWalk_43 rfl rfl ?_
        refine Em.ok (fun hL9 hS9 hM9 => ?_)
        have q1 := okV_j (okA_0 hS9)
        have q2 := okV_j (okA_1 hS9)
        refine Ev.lcmp (q := 45) dX12_whyWalk_44 rfl ?_
        refine Ev.if_ne (tgt := 52) (q := 48) dX12_whyWalk_45 (by decide) rfl (fun h6 => ?_) (fun h6 => ?_)
        · skip
          rw [lcmp_z q2 q1] at h6
          refine Ev.iconst (q := 53) dX12_whyWalk_52 ki_0 rfl ?_
          refine rI dX12_whyWalk_53 rfl ?_
          refine ⟨?_, rfl⟩
          unfold whyW isP isF
          rw [if_neg (by simp only [decide_eq_false_iff_not]; omega)]
          simp only [Int.toNat_natCast]
          first | rw [if_pos (by first | exact Or.inl (by assumption) | exact Or.inr (by assumption))] | rw [if_neg (by intro z; rcases z with z | z <;> contradiction)]
        · skip
          rw [lcmp_z q2 q1] at h6
          refine Ev.iconst (q := 49) dX12_whyWalk_48 ki_2 rfl ?_
          refine Ev.goto (q := 53) dX12_whyWalk_49 (by decide) ?_
          refine rI dX12_whyWalk_53 rfl ?_
          refine ⟨?_, rfl⟩
          unfold whyW isP isF
          rw [if_neg (by simp only [decide_eq_false_iff_not]; omega)]
          simp only [Int.toNat_natCast]
          first | rw [if_pos (by first | exact Or.inl (by assumption) | exact Or.inr (by assumption))] | rw [if_neg (by intro z; rcases z with z | z <;> contradiction)]
    · skip
      have hFF : ¬ (0 ≤ f ∧ f < m 212 1) := by split at h4 <;> omega
      refine Ev.iconst (q := 17) dX12_whyWalk_16 ki_1 rfl ?_
      refine rI dX12_whyWalk_17 rfl ?_
      refine ⟨?_, rfl⟩
      unfold whyW isP isF
      rw [if_pos (by simp only [decide_eq_false_iff_not]; first | assumption | exact Or.inl (by assumption) | exact Or.inr (by assumption))]
