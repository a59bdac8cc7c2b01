/-! ===== the reference: sets of people, counts, draws ===== -/
def setN (q : Nat → Bool) : Nat → Nat
  | 0 => 0
  | n + 1 => if q n = true then setN q n ||| 2 ^ n else setN q n
def cntN (q : Nat → Bool) : Nat → Nat
  | 0 => 0
  | n + 1 => if q n = true then cntN q n + 1 else cntN q n
theorem setN_lt (q : Nat → Bool) (n : Nat) : setN q n < 2 ^ n := by
  induction n with
  | zero => exact Nat.one_pos
  | succ n ih =>
    have h1 : setN q n < 2 ^ (n + 1) := Nat.lt_of_lt_of_le ih (Nat.pow_le_pow_right (by decide) (by omega))
    unfold setN
    split
    · exact Nat.or_lt_two_pow h1 (two_lt (by omega))
    · exact h1
theorem setN_12 (q : Nat → Bool) {n : Nat} (h : n ≤ 8) : setN q n < 2 ^ 12 := Nat.lt_of_lt_of_le (setN_lt q n) (Nat.pow_le_pow_right (by decide) (by omega))
theorem cntN_le (q : Nat → Bool) (n : Nat) : cntN q n ≤ n := by
  induction n with
  | zero => exact Nat.le_refl 0
  | succ n ih => unfold cntN; split <;> omega
def homQ (g : Nat → Int) (p : Nat) : Bool := decide (g (88 + p) = -1 ∧ g (72 + p) = g (28 + p))
def homS (g : Nat → Int) : Nat := setN (homQ g) (g 3).toNat
def inQ (g : Nat → Int) (l : Nat) (p : Nat) : Bool := decide (g (88 + p) = l)
def inS (g : Nat → Int) (l : Nat) : Nat := setN (inQ g l) (g 3).toNat
def ridQ (g : Nat → Int) (p : Nat) : Bool := decide (¬ g (88 + p) = -1)
def ridC (g : Nat → Int) : Nat := cntN (ridQ g) (g 3).toNat
def lmN (g : Nat → Int) : Nat → Nat
  | 0 => 0
  | n + 1 => lmN g n + pop (litV g n)
def lmC (g : Nat → Int) : Nat := lmN g (g 2).toNat
theorem lmN_le (g : Nat → Int) (n : Nat) : lmN g n ≤ 12 * n := by
  induction n with
  | zero => exact Nat.le_refl 0
  | succ n ih => have := pop_le (litV g n); unfold lmN; omega
set_option maxRecDepth 4000 in
theorem l_X12_atHome {Γ : Gm} {d : Nat} {m : Mem} (P : Nat) (hP : m 212 3 = P) (hP8 : P ≤ 8) : ∀ (n p : Nat), p + n = P → Em Γ (d + 0) MX12_atHome (fun r m' => r = (setN (homQ (m 212)) P : Int) ∧ m' = m) 4 [rv 211, iv (setN (homQ (m 212)) p : Nat), iv p] [] m := by
  intro n
  induction n with
  | zero =>
    intro p hp
    obtain rfl : P = p := by omega
    refine Ev.iload_n (q := 5) dX12_atHome_4 rfl rfl ?_
    refine Ev.aload_n (q := 6) dX12_atHome_5 rfl rfl ?_
    refine gR (q := 9) dX12_atHome_6 gfX12_13 k211 r211_1 rfl rfl ?_
    refine Ev.iconst (q := 10) dX12_atHome_9 ki_3 rfl ?_
    refine aI (q := 11) (k := 3) dX12_atHome_10 k212 (by rfl) (by decide) rfl ?_
    refine Ev.icmp_ge (tgt := 64) (q := 14) dX12_atHome_11 (by decide) rfl (fun h1 => ?_) (fun h1 => ?_)
    · skip
      refine Ev.iload_n (q := 65) dX12_atHome_64 rfl rfl ?_
      refine rI dX12_atHome_65 rfl ?_
      exact ⟨rfl, rfl⟩
    · skip
      rw [hP] at h1; omega
  | succ n ih =>
    intro p hp
    have h12 := setN_12 (homQ (m 212)) (show p ≤ 8 by omega)
    refine Ev.iload_n (q := 5) dX12_atHome_4 rfl rfl ?_
    refine Ev.aload_n (q := 6) dX12_atHome_5 rfl rfl ?_
    refine gR (q := 9) dX12_atHome_6 gfX12_13 k211 r211_1 rfl rfl ?_
    refine Ev.iconst (q := 10) dX12_atHome_9 ki_3 rfl ?_
    refine aI (q := 11) (k := 3) dX12_atHome_10 k212 (by rfl) (by decide) rfl ?_
    refine Ev.icmp_ge (tgt := 64) (q := 14) dX12_atHome_11 (by decide) rfl (fun h1 => ?_) (fun h1 => ?_)
    · skip
      rw [hP] at h1; omega
    · skip
      refine Ev.iload_n (q := 15) dX12_atHome_14 rfl rfl ?_
      refine Ev.aload_n (q := 16) dX12_atHome_15 rfl rfl ?_
      refine gR (q := 19) dX12_atHome_16 gfX12_13 k211 r211_1 rfl rfl ?_
      refine Ev.bipush (q := 21) dX12_atHome_19 kb_88 rfl ?_
      refine Ev.iload_n (q := 22) dX12_atHome_21 rfl rfl ?_
      refine Ev.iadd (q := 23) dX12_atHome_22 rfl ?_
      refine aI (q := 24) (k := 88 + p) dX12_atHome_23 k212 (by first | rfl | omega | (simp (disch := omega) only [w32_of]; omega)) (by omega) rfl ?_
      refine Ev.iconst (q := 25) dX12_atHome_24 ki_m1 rfl ?_
      refine Ev.icmp_ne (tgt := 55) (q := 28) dX12_atHome_25 (by decide) rfl (fun h2 => ?_) (fun h2 => ?_)
      · skip
        have hq : ¬ homQ (m 212) p = true := by unfold homQ; intro z; exact h2 (of_decide_eq_true z).1
        refine Ev.iconst (q := 56) dX12_atHome_55 ki_0 rfl ?_
        refine Ev.ior (q := 57) dX12_atHome_56 rfl ?_
        refine istore_n_1 (q := 58) dX12_atHome_57 rfl rfl rfl ?_
        refine iinc_2 (q := 61) dX12_atHome_58 rfl rfl rfl ?_
        refine Ev.goto (q := 4) dX12_atHome_61 (by decide) ?_
        have hz : setN (homQ (m 212)) p ||| 0 = setN (homQ (m 212)) p := Nat.or_zero _
        rw [show (0 : Int) = ((0 : Nat) : Int) from rfl, ior_n (k := 12) h12 (by decide) (by decide), hz]
        rw [w32_of (by omega) (by omega)]
        have hk9 := ih (p + 1) (by omega)
        rw [show setN (homQ (m 212)) (p + 1) = setN (homQ (m 212)) p by conv => lhs; unfold setN; rw [if_neg hq]] at hk9
        exact hk9
      · skip
        refine Ev.aload_n (q := 29) dX12_atHome_28 rfl rfl ?_
        refine gR (q := 32) dX12_atHome_29 gfX12_13 k211 r211_1 rfl rfl ?_
        refine Ev.bipush (q := 34) dX12_atHome_32 kb_72 rfl ?_
        refine Ev.iload_n (q := 35) dX12_atHome_34 rfl rfl ?_
        refine Ev.iadd (q := 36) dX12_atHome_35 rfl ?_
        refine aI (q := 37) (k := 72 + p) dX12_atHome_36 k212 (by first | rfl | omega | (simp (disch := omega) only [w32_of]; omega)) (by omega) rfl ?_
        refine Ev.aload_n (q := 38) dX12_atHome_37 rfl rfl ?_
        refine gR (q := 41) dX12_atHome_38 gfX12_13 k211 r211_1 rfl rfl ?_
        refine Ev.bipush (q := 43) dX12_atHome_41 kb_28 rfl ?_
        refine Ev.iload_n (q := 44) dX12_atHome_43 rfl rfl ?_
        refine Ev.iadd (q := 45) dX12_atHome_44 rfl ?_
        refine aI (q := 46) (k := 28 + p) dX12_atHome_45 k212 (by first | rfl | omega | (simp (disch := omega) only [w32_of]; omega)) (by omega) rfl ?_
        refine Ev.icmp_ne (tgt := 55) (q := 49) dX12_atHome_46 (by decide) rfl (fun h3 => ?_) (fun h3 => ?_)
        · skip
          have hq : ¬ homQ (m 212) p = true := by unfold homQ; intro z; exact h3 (of_decide_eq_true z).2
          refine Ev.iconst (q := 56) dX12_atHome_55 ki_0 rfl ?_
          refine Ev.ior (q := 57) dX12_atHome_56 rfl ?_
          refine istore_n_1 (q := 58) dX12_atHome_57 rfl rfl rfl ?_
          refine iinc_2 (q := 61) dX12_atHome_58 rfl rfl rfl ?_
          refine Ev.goto (q := 4) dX12_atHome_61 (by decide) ?_
          have hz : setN (homQ (m 212)) p ||| 0 = setN (homQ (m 212)) p := Nat.or_zero _
          rw [show (0 : Int) = ((0 : Nat) : Int) from rfl, ior_n (k := 12) h12 (by decide) (by decide), hz]
          rw [w32_of (by omega) (by omega)]
          have hk9 := ih (p + 1) (by omega)
          rw [show setN (homQ (m 212)) (p + 1) = setN (homQ (m 212)) p by conv => lhs; unfold setN; rw [if_neg hq]] at hk9
          exact hk9
        · skip
          have hq : homQ (m 212) p = true := by unfold homQ; exact decide_eq_true ⟨by omega, by omega⟩
          refine Ev.iconst (q := 50) dX12_atHome_49 ki_1 rfl ?_
          refine Ev.iload_n (q := 51) dX12_atHome_50 rfl rfl ?_
          refine Ev.ishl (q := 52) dX12_atHome_51 rfl ?_
          refine Ev.goto (q := 56) dX12_atHome_52 (by decide) ?_
          refine Ev.ior (q := 57) dX12_atHome_56 rfl ?_
          refine istore_n_1 (q := 58) dX12_atHome_57 rfl rfl rfl ?_
          refine iinc_2 (q := 61) dX12_atHome_58 rfl rfl rfl ?_
          refine Ev.goto (q := 4) dX12_atHome_61 (by decide) ?_
          rw [ishl_1 p (by omega), ior_n (k := 12) h12 (two_lt (by omega)) (by decide)]
          rw [w32_of (by omega) (by omega)]
          have hk9 := ih (p + 1) (by omega)
          rw [show setN (homQ (m 212)) (p + 1) = setN (homQ (m 212)) p ||| 2 ^ p by conv => lhs; unfold setN; rw [if_pos hq]] at hk9
          exact hk9
set_option maxRecDepth 4000 in
theorem p_X12_atHome {Γ : Gm} {d : Nat} {m : Mem}  (h3 : 0 ≤ m 212 3 ∧ m 212 3 ≤ 8) : Ci Γ (d + 0) MX12_atHome [rv 211] m (fun r m' => r = (homS (m 212) : Int) ∧ m' = m) := by
  refine Ci.of moX12_atHome rfl rfl (fun hA hM => ?_)
  show Em Γ (d + 0) MX12_atHome _ 0 [rv 211, uv, uv] [] m
  refine Ev.iconst (q := 1) dX12_atHome_0 ki_0 rfl ?_
  refine istore_n_1 (q := 2) dX12_atHome_1 rfl rfl rfl ?_
  refine Ev.iconst (q := 3) dX12_atHome_2 ki_0 rfl ?_
  refine istore_n_2 (q := 4) dX12_atHome_3 rfl rfl rfl ?_
  obtain ⟨P, hP⟩ : ∃ P : Nat, m 212 3 = P := ⟨(m 212 3).toNat, by omega⟩
  have hk9 := l_X12_atHome (Γ := Γ) (d := d) (m := m) P hP (by omega) P 0 (by omega)
  unfold homS
  rw [hP, Int.toNat_natCast]
  exact hk9
set_option maxRecDepth 4000 in
theorem l_X12_isInSet {Γ : Gm} {d : Nat} {m : Mem} (l : Nat) (P : Nat) (hP : m 212 3 = P) (hP8 : P ≤ 8) : ∀ (n p : Nat), p + n = P → Em Γ (d + 0) MX12_isInSet (fun r m' => r = (setN (inQ (m 212) l) P : Int) ∧ m' = m) 4 [rv 211, iv l, iv (setN (inQ (m 212) l) p : Nat), iv p] [] m := by
  intro n
  induction n with
  | zero =>
    intro p hp
    obtain rfl : P = p := by omega
    refine Ev.iload_n (q := 5) dX12_isInSet_4 rfl rfl ?_
    refine Ev.aload_n (q := 6) dX12_isInSet_5 rfl rfl ?_
    refine gR (q := 9) dX12_isInSet_6 gfX12_13 k211 r211_1 rfl rfl ?_
    refine Ev.iconst (q := 10) dX12_isInSet_9 ki_3 rfl ?_
    refine aI (q := 11) (k := 3) dX12_isInSet_10 k212 (by rfl) (by decide) rfl ?_
    refine Ev.icmp_ge (tgt := 43) (q := 14) dX12_isInSet_11 (by decide) rfl (fun h1 => ?_) (fun h1 => ?_)
    · skip
      refine Ev.iload_n (q := 44) dX12_isInSet_43 rfl rfl ?_
      refine rI dX12_isInSet_44 rfl ?_
      exact ⟨rfl, rfl⟩
    · skip
      rw [hP] at h1; omega
  | succ n ih =>
    intro p hp
    have h12 := setN_12 (inQ (m 212) l) (show p ≤ 8 by omega)
    refine Ev.iload_n (q := 5) dX12_isInSet_4 rfl rfl ?_
    refine Ev.aload_n (q := 6) dX12_isInSet_5 rfl rfl ?_
    refine gR (q := 9) dX12_isInSet_6 gfX12_13 k211 r211_1 rfl rfl ?_
    refine Ev.iconst (q := 10) dX12_isInSet_9 ki_3 rfl ?_
    refine aI (q := 11) (k := 3) dX12_isInSet_10 k212 (by rfl) (by decide) rfl ?_
    refine Ev.icmp_ge (tgt := 43) (q := 14) dX12_isInSet_11 (by decide) rfl (fun h1 => ?_) (fun h1 => ?_)
    · skip
      rw [hP] at h1; omega
    · skip
      refine Ev.iload_n (q := 15) dX12_isInSet_14 rfl rfl ?_
      refine Ev.aload_n (q := 16) dX12_isInSet_15 rfl rfl ?_
      refine gR (q := 19) dX12_isInSet_16 gfX12_13 k211 r211_1 rfl rfl ?_
      refine Ev.bipush (q := 21) dX12_isInSet_19 kb_88 rfl ?_
      refine Ev.iload_n (q := 22) dX12_isInSet_21 rfl rfl ?_
      refine Ev.iadd (q := 23) dX12_isInSet_22 rfl ?_
      refine aI (q := 24) (k := 88 + p) dX12_isInSet_23 k212 (by first | rfl | omega | (simp (disch := omega) only [w32_of]; omega)) (by omega) rfl ?_
      refine Ev.iload_n (q := 25) dX12_isInSet_24 rfl rfl ?_
      refine Ev.icmp_ne (tgt := 34) (q := 28) dX12_isInSet_25 (by decide) rfl (fun h2 => ?_) (fun h2 => ?_)
      · skip
        have hq : ¬ inQ (m 212) l p = true := by unfold inQ; intro z; exact h2 (of_decide_eq_true z)
        refine Ev.iconst (q := 35) dX12_isInSet_34 ki_0 rfl ?_
        refine Ev.ior (q := 36) dX12_isInSet_35 rfl ?_
        refine istore_n_2 (q := 37) dX12_isInSet_36 rfl rfl rfl ?_
        refine iinc_3 (q := 40) dX12_isInSet_37 rfl rfl rfl ?_
        refine Ev.goto (q := 4) dX12_isInSet_40 (by decide) ?_
        have hz : setN (inQ (m 212) l) p ||| 0 = setN (inQ (m 212) l) p := Nat.or_zero _
        rw [show (0 : Int) = ((0 : Nat) : Int) from rfl, ior_n (k := 12) h12 (by decide) (by decide), hz]
        rw [w32_of (by omega) (by omega)]
        have hk9 := ih (p + 1) (by omega)
        rw [show setN (inQ (m 212) l) (p + 1) = setN (inQ (m 212) l) p by conv => lhs; unfold setN; rw [if_neg hq]] at hk9
        exact hk9
      · skip
        have hq : inQ (m 212) l p = true := by unfold inQ; exact decide_eq_true (by omega)
        refine Ev.iconst (q := 29) dX12_isInSet_28 ki_1 rfl ?_
        refine Ev.iload_n (q := 30) dX12_isInSet_29 rfl rfl ?_
        refine Ev.ishl (q := 31) dX12_isInSet_30 rfl ?_
        refine Ev.goto (q := 35) dX12_isInSet_31 (by decide) ?_
        refine Ev.ior (q := 36) dX12_isInSet_35 rfl ?_
        refine istore_n_2 (q := 37) dX12_isInSet_36 rfl rfl rfl ?_
        refine iinc_3 (q := 40) dX12_isInSet_37 rfl rfl rfl ?_
        refine Ev.goto (q := 4) dX12_isInSet_40 (by decide) ?_
        rw [ishl_1 p (by omega), ior_n (k := 12) h12 (two_lt (by omega)) (by decide)]
        rw [w32_of (by omega) (by omega)]
        have hk9 := ih (p + 1) (by omega)
        rw [show setN (inQ (m 212) l) (p + 1) = setN (inQ (m 212) l) p ||| 2 ^ p by conv => lhs; unfold setN; rw [if_pos hq]] at hk9
        exact hk9
set_option maxRecDepth 4000 in
theorem p_X12_isInSet {Γ : Gm} {d : Nat} {m : Mem} (l : Nat)  (h3 : 0 ≤ m 212 3 ∧ m 212 3 ≤ 8) : Ci Γ (d + 0) MX12_isInSet [rv 211, iv l] m (fun r m' => r = (inS (m 212) l : Int) ∧ m' = m) := by
  refine Ci.of moX12_isInSet rfl rfl (fun hA hM => ?_)
  show Em Γ (d + 0) MX12_isInSet _ 0 [rv 211, iv l, uv, uv] [] m
  refine Ev.iconst (q := 1) dX12_isInSet_0 ki_0 rfl ?_
  refine istore_n_2 (q := 2) dX12_isInSet_1 rfl rfl rfl ?_
  refine Ev.iconst (q := 3) dX12_isInSet_2 ki_0 rfl ?_
  refine istore_n_3 (q := 4) dX12_isInSet_3 rfl rfl rfl ?_
  obtain ⟨P, hP⟩ : ∃ P : Nat, m 212 3 = P := ⟨(m 212 3).toNat, by omega⟩
  have hk9 := l_X12_isInSet (Γ := Γ) (d := d) (m := m) l P hP (by omega) P 0 (by omega)
  unfold inS
  rw [hP, Int.toNat_natCast]
  exact hk9
set_option maxRecDepth 4000 in
theorem l_X12_inLifts {Γ : Gm} {d : Nat} {m : Mem} (P : Nat) (hP : m 212 3 = P) (hP8 : P ≤ 8) : ∀ (n p : Nat), p + n = P → Em Γ (d + 0) MX12_inLifts (fun r m' => r = (cntN (ridQ (m 212)) P : Int) ∧ m' = m) 4 [rv 211, iv (cntN (ridQ (m 212)) p : Nat), iv p] [] m := by
  intro n
  induction n with
  | zero =>
    intro p hp
    obtain rfl : P = p := by omega
    refine Ev.iload_n (q := 5) dX12_inLifts_4 rfl rfl ?_
    refine Ev.aload_n (q := 6) dX12_inLifts_5 rfl rfl ?_
    refine gR (q := 9) dX12_inLifts_6 gfX12_13 k211 r211_1 rfl rfl ?_
    refine Ev.iconst (q := 10) dX12_inLifts_9 ki_3 rfl ?_
    refine aI (q := 11) (k := 3) dX12_inLifts_10 k212 (by rfl) (by decide) rfl ?_
    refine Ev.icmp_ge (tgt := 41) (q := 14) dX12_inLifts_11 (by decide) rfl (fun h1 => ?_) (fun h1 => ?_)
    · skip
      refine Ev.iload_n (q := 42) dX12_inLifts_41 rfl rfl ?_
      refine rI dX12_inLifts_42 rfl ?_
      exact ⟨rfl, rfl⟩
    · skip
      rw [hP] at h1; omega
  | succ n ih =>
    intro p hp
    have h12 := cntN_le (ridQ (m 212)) p
    refine Ev.iload_n (q := 5) dX12_inLifts_4 rfl rfl ?_
    refine Ev.aload_n (q := 6) dX12_inLifts_5 rfl rfl ?_
    refine gR (q := 9) dX12_inLifts_6 gfX12_13 k211 r211_1 rfl rfl ?_
    refine Ev.iconst (q := 10) dX12_inLifts_9 ki_3 rfl ?_
    refine aI (q := 11) (k := 3) dX12_inLifts_10 k212 (by rfl) (by decide) rfl ?_
    refine Ev.icmp_ge (tgt := 41) (q := 14) dX12_inLifts_11 (by decide) rfl (fun h1 => ?_) (fun h1 => ?_)
    · skip
      rw [hP] at h1; omega
    · skip
      refine Ev.iload_n (q := 15) dX12_inLifts_14 rfl rfl ?_
      refine Ev.aload_n (q := 16) dX12_inLifts_15 rfl rfl ?_
      refine gR (q := 19) dX12_inLifts_16 gfX12_13 k211 r211_1 rfl rfl ?_
      refine Ev.bipush (q := 21) dX12_inLifts_19 kb_88 rfl ?_
      refine Ev.iload_n (q := 22) dX12_inLifts_21 rfl rfl ?_
      refine Ev.iadd (q := 23) dX12_inLifts_22 rfl ?_
      refine aI (q := 24) (k := 88 + p) dX12_inLifts_23 k212 (by first | rfl | omega | (simp (disch := omega) only [w32_of]; omega)) (by omega) rfl ?_
      refine Ev.iconst (q := 25) dX12_inLifts_24 ki_m1 rfl ?_
      refine Ev.icmp_ne (tgt := 32) (q := 28) dX12_inLifts_25 (by decide) rfl (fun h2 => ?_) (fun h2 => ?_)
      · skip
        have hq : ridQ (m 212) p = true := by unfold ridQ; exact decide_eq_true h2
        refine Ev.iconst (q := 33) dX12_inLifts_32 ki_1 rfl ?_
        refine Ev.iadd (q := 34) dX12_inLifts_33 rfl ?_
        refine istore_n_1 (q := 35) dX12_inLifts_34 rfl rfl rfl ?_
        refine iinc_2 (q := 38) dX12_inLifts_35 rfl rfl rfl ?_
        refine Ev.goto (q := 4) dX12_inLifts_38 (by decide) ?_
        rw [w32_of (by omega) (by omega), w32_of (by omega) (by omega)]
        have hk9 := ih (p + 1) (by omega)
        rw [show cntN (ridQ (m 212)) (p + 1) = cntN (ridQ (m 212)) p + 1 by conv => lhs; unfold cntN; rw [if_pos hq]] at hk9
        exact hk9
      · skip
        have hq : ¬ ridQ (m 212) p = true := by unfold ridQ; intro z; exact of_decide_eq_true z h2
        refine Ev.iconst (q := 29) dX12_inLifts_28 ki_0 rfl ?_
        refine Ev.goto (q := 33) dX12_inLifts_29 (by decide) ?_
        refine Ev.iadd (q := 34) dX12_inLifts_33 rfl ?_
        refine istore_n_1 (q := 35) dX12_inLifts_34 rfl rfl rfl ?_
        refine iinc_2 (q := 38) dX12_inLifts_35 rfl rfl rfl ?_
        refine Ev.goto (q := 4) dX12_inLifts_38 (by decide) ?_
        rw [Int.add_zero, w32_of (by omega) (by omega), w32_of (by omega) (by omega)]
        have hk9 := ih (p + 1) (by omega)
        rw [show cntN (ridQ (m 212)) (p + 1) = cntN (ridQ (m 212)) p by conv => lhs; unfold cntN; rw [if_neg hq]] at hk9
        exact hk9
set_option maxRecDepth 4000 in
theorem p_X12_inLifts {Γ : Gm} {d : Nat} {m : Mem}  (h3 : 0 ≤ m 212 3 ∧ m 212 3 ≤ 8) : Ci Γ (d + 0) MX12_inLifts [rv 211] m (fun r m' => r = (ridC (m 212) : Int) ∧ m' = m) := by
  refine Ci.of moX12_inLifts rfl rfl (fun hA hM => ?_)
  show Em Γ (d + 0) MX12_inLifts _ 0 [rv 211, uv, uv] [] m
  refine Ev.iconst (q := 1) dX12_inLifts_0 ki_0 rfl ?_
  refine istore_n_1 (q := 2) dX12_inLifts_1 rfl rfl rfl ?_
  refine Ev.iconst (q := 3) dX12_inLifts_2 ki_0 rfl ?_
  refine istore_n_2 (q := 4) dX12_inLifts_3 rfl rfl rfl ?_
  obtain ⟨P, hP⟩ : ∃ P : Nat, m 212 3 = P := ⟨(m 212 3).toNat, by omega⟩
  have hk9 := l_X12_inLifts (Γ := Γ) (d := d) (m := m) P hP (by omega) P 0 (by omega)
  unfold ridC
  rw [hP, Int.toNat_natCast]
  exact hk9
set_option maxRecDepth 4000 in
theorem l_X12_lightsMany {Γ : Gm} {d : Nat} {m : Mem} (P : Nat) (hI : HI (m 212)) (hP : m 212 2 = P) (hP8 : P ≤ 3) : ∀ (n p : Nat), p + n = P → Em Γ (d + 1) MX12_lightsMany (fun r m' => r = (lmN (m 212) P : Int) ∧ m' = m) 4 [rv 211, iv (lmN (m 212) p : Nat), iv p] [] m := by
  intro n
  induction n with
  | zero =>
    intro p hp
    obtain rfl : P = p := by omega
    refine Ev.iload_n (q := 5) dX12_lightsMany_4 rfl rfl ?_
    refine Ev.aload_n (q := 6) dX12_lightsMany_5 rfl rfl ?_
    refine gR (q := 9) dX12_lightsMany_6 gfX12_13 k211 r211_1 rfl rfl ?_
    refine Ev.iconst (q := 10) dX12_lightsMany_9 ki_2 rfl ?_
    refine aI (q := 11) (k := 2) dX12_lightsMany_10 k212 (by rfl) (by decide) rfl ?_
    refine Ev.icmp_ge (tgt := 35) (q := 14) dX12_lightsMany_11 (by decide) rfl (fun h1 => ?_) (fun h1 => ?_)
    · skip
      refine Ev.iload_n (q := 36) dX12_lightsMany_35 rfl rfl ?_
      refine rI dX12_lightsMany_36 rfl ?_
      exact ⟨rfl, rfl⟩
    · skip
      rw [hP] at h1; omega
  | succ n ih =>
    intro p hp
    have h12 := lmN_le (m 212) p
    refine Ev.iload_n (q := 5) dX12_lightsMany_4 rfl rfl ?_
    refine Ev.aload_n (q := 6) dX12_lightsMany_5 rfl rfl ?_
    refine gR (q := 9) dX12_lightsMany_6 gfX12_13 k211 r211_1 rfl rfl ?_
    refine Ev.iconst (q := 10) dX12_lightsMany_9 ki_2 rfl ?_
    refine aI (q := 11) (k := 2) dX12_lightsMany_10 k212 (by rfl) (by decide) rfl ?_
    refine Ev.icmp_ge (tgt := 35) (q := 14) dX12_lightsMany_11 (by decide) rfl (fun h1 => ?_) (fun h1 => ?_)
    · skip
      rw [hP] at h1; omega
    · skip
      refine Ev.iload_n (q := 15) dX12_lightsMany_14 rfl rfl ?_
      refine Ev.aload_n (q := 16) dX12_lightsMany_15 rfl rfl ?_
      refine gR (q := 19) dX12_lightsMany_16 gfX12_13 k211 r211_1 rfl rfl ?_
      refine Ev.bipush (q := 21) dX12_lightsMany_19 kb_66 rfl ?_
      refine Ev.iload_n (q := 22) dX12_lightsMany_21 rfl rfl ?_
      refine Ev.iadd (q := 23) dX12_lightsMany_22 rfl ?_
      refine aI (q := 24) (k := 66 + p) dX12_lightsMany_23 k212 (by first | rfl | omega | (simp (disch := omega) only [w32_of]; omega)) (by omega) rfl ?_
      rw [show m 212 (66 + p) = ((litV (m 212) p : Nat) : Int) by unfold litV; have := (hI.lift (l := p) (by omega)).2.1.1; omega]
      refine cS1i (q := 27) (d' := d + 0) dX12_lightsMany_24 mlX12_224 moX12_bitsOf msX12_bitsOf rfl rfl (Nat.le_refl _) rfl rfl rfl (p_X12_bitsOf (litV (m 212) p) ((hI.litOk (l := p) (by omega)).lt hI)) (fun r2 m2 e2 => ?_)
      obtain ⟨rfl, e2⟩ := e2
      obtain rfl := e2.symm
      refine Ev.iadd (q := 28) dX12_lightsMany_27 rfl ?_
      refine istore_n_1 (q := 29) dX12_lightsMany_28 rfl rfl rfl ?_
      refine iinc_2 (q := 32) dX12_lightsMany_29 rfl rfl rfl ?_
      refine Ev.goto (q := 4) dX12_lightsMany_32 (by decide) ?_
      have hb := pop_le (litV (m 212) p)
      rw [w32_of (by omega) (by omega), w32_of (by omega) (by omega)]
      have hk9 := ih (p + 1) (by omega)
      rw [show ((lmN (m 212) (p + 1) : Nat) : Int) = (lmN (m 212) p : Int) + (pop (litV (m 212) p) : Int) from by show ((lmN (m 212) p + pop (litV (m 212) p) : Nat) : Int) = _; omega] at hk9
      exact hk9
set_option maxRecDepth 4000 in
theorem p_X12_lightsMany {Γ : Gm} {d : Nat} {m : Mem}  (hI : HI (m 212)) : Ci Γ (d + 1) MX12_lightsMany [rv 211] m (fun r m' => r = (lmC (m 212) : Int) ∧ m' = m) := by
  refine Ci.of moX12_lightsMany rfl rfl (fun hA hM => ?_)
  show Em Γ (d + 1) MX12_lightsMany _ 0 [rv 211, uv, uv] [] m
  refine Ev.iconst (q := 1) dX12_lightsMany_0 ki_0 rfl ?_
  refine istore_n_1 (q := 2) dX12_lightsMany_1 rfl rfl rfl ?_
  refine Ev.iconst (q := 3) dX12_lightsMany_2 ki_0 rfl ?_
  refine istore_n_2 (q := 4) dX12_lightsMany_3 rfl rfl rfl ?_
  have hL3 := hI.2.1
  obtain ⟨P, hP⟩ : ∃ P : Nat, m 212 2 = P := ⟨(m 212 2).toNat, by omega⟩
  have hk9 := l_X12_lightsMany (Γ := Γ) (d := d) (m := m) P hI hP (by omega) P 0 (by omega)
  unfold lmC
  rw [hP, Int.toNat_natCast]
  exact hk9
def drw (x : Int) : Int := w32 (w32 (1103515245 * x) + 12345)
def drv (x : Int) (b : Nat) : Nat := (o_iushr x 16).toNat % b
theorem iushr16 (x : Int) : 0 ≤ o_iushr x 16 ∧ o_iushr x 16 < 65536 := by
  unfold o_iushr
  have e : (Int32.ofInt 16).toUInt32 &&& Int32.toUInt32 31 = 16 := by decide
  rw [e]
  generalize (Int32.ofInt x).toUInt32 = u
  have h1 : (u >>> 16).toNat = u.toNat / 65536 := by
    rw [UInt32.toNat_shiftRight]
    rw [Nat.shiftRight_eq_div_pow]
    rfl
  have h2 : (u >>> 16).toNat < 65536 := by
    have := u.toNat_lt
    rw [h1]
    omega
  generalize u >>> 16 = v at h2
  have h3 : v.toInt32.toInt = (v.toNat : Int) := by
    show v.toBitVec.toInt = (v.toBitVec.toNat : Int)
    rw [BitVec.toInt_eq_toNat_cond, if_pos]
    have : v.toBitVec.toNat < 65536 := h2
    omega
  rw [h3]
  omega
theorem drv_lt (x : Int) {b : Nat} (h : 0 < b) : drv x b < b := Nat.mod_lt _ h
def drnV (L P F : Nat) (x : Int) : Int × Nat × Nat × Nat :=
  if drv (drw x) 6 < 2 then (drw (drw x), 2, drv (drw (drw x)) L, 0) else
  if drv (drw x) 6 = 2 then (drw (drw (drw x)), 0, drv (drw (drw x)) L, drv (drw (drw (drw x))) F) else
  if drv (drw x) 6 = 3 then (drw (drw x), 3, drv (drw (drw x)) P, 0) else
  if drv (drw x) 6 = 4 then (drw (drw (drw x)), 4, drv (drw (drw x)) P, drv (drw (drw (drw x))) L) else
  (drw (drw (drw x)), 5, drv (drw (drw x)) P, drv (drw (drw (drw x))) F)
def numD (k a b : Nat) : Nat := if k = 2 ∨ k = 3 then 1000 * k + a else if k = 4 then 4000 + 10 * a + b else 1000 * k + 100 * a + b
set_option maxRecDepth 4000 in
theorem p_X12_draw {Γ : Gm} {d : Nat} {m : Mem} (b : Nat) (hb : 0 < b) (hb2 : b < 100) : Ci Γ (d + 0) MX12_draw [rv 211, iv b] m (fun r m' => r = (drv (drw (m 211 26)) b : Int) ∧ m' = up m 211 26 (drw (m 211 26))) := by
  refine Ci.of moX12_draw rfl rfl (fun hA hM => ?_)
  show Em Γ (d + 0) MX12_draw _ 0 [rv 211, iv b] [] m
  refine Ev.aload_n (q := 1) dX12_draw_0 rfl rfl ?_
  refine Ev.ldc_w (q := 4) dX12_draw_1 kcX12_340 kcvX12_340 rfl ?_
  refine Ev.aload_n (q := 5) dX12_draw_4 rfl rfl ?_
  refine gI (q := 8) dX12_draw_5 gfX12_341 k211 rfl rfl ?_
  refine Ev.imul (q := 9) dX12_draw_8 rfl ?_
  refine Ev.sipush (q := 12) dX12_draw_9 kh_12345 rfl ?_
  refine Ev.iadd (q := 13) dX12_draw_12 rfl ?_
  refine pI (q := 16) dX12_draw_13 gfX12_341 k211 rfl rfl ?_
  refine Ev.aload_n (q := 17) dX12_draw_16 rfl rfl ?_
  refine gI (q := 20) dX12_draw_17 gfX12_341 k211 rfl rfl ?_
  refine Ev.bipush (q := 22) dX12_draw_20 kb_16 rfl ?_
  refine Ev.iushr (q := 23) dX12_draw_22 rfl ?_
  have hu := iushr16 (drw (m 211 26))
  rw [up_eq]
  obtain ⟨u, hu9⟩ : ∃ u : Nat, o_iushr (drw (m 211 26)) 16 = u := ⟨(o_iushr (drw (m 211 26)) 16).toNat, by omega⟩
  rw [show o_iushr (w32 (w32 (1103515245 * m 211 26) + 12345)) 16 = (u : Int) from hu9]
  refine Ev.iload_n (q := 24) dX12_draw_23 rfl rfl ?_
  refine Ev.irem (q := 25) dX12_draw_24 (by omega) rfl ?_
  refine rI dX12_draw_25 rfl ?_
  refine ⟨?_, rfl⟩
  rw [irem_n (by omega) hb (by omega)]
  unfold drv
  rw [hu9, Int.toNat_natCast]
theorem up_up (m : Mem) (a k : Nat) (x y : Int) : up (up m a k x) a k y = up m a k y := by
  funext b j
  unfold up
  by_cases h : b = a ∧ j = k <;> simp [h]
set_option maxRecDepth 4000 in
theorem p_X12_drawn {Γ : Gm} {d : Nat} {m : Mem} (L P F : Nat) (hL : m 212 2 = L) (hP : m 212 3 = P) (hF : m 212 1 = F) (h1 : 0 < L ∧ L ≤ 3) (h2 : 0 < P ∧ P ≤ 8) (h3 : 0 < F ∧ F ≤ 12) : Ci Γ (d + 1) MX12_drawn [rv 211] m (fun r m' => r = (numD (drnV L P F (m 211 26)).2.1 (drnV L P F (m 211 26)).2.2.1 (drnV L P F (m 211 26)).2.2.2 : Nat) ∧ m' = up m 211 26 (drnV L P F (m 211 26)).1) := by
  refine Ci.of moX12_drawn rfl rfl (fun hA hM => ?_)
  show Em Γ (d + 1) MX12_drawn _ 0 [rv 211, uv, uv] [] m
  refine Ev.aload_n (q := 1) dX12_drawn_0 rfl rfl ?_
  refine Ev.bipush (q := 3) dX12_drawn_1 kb_6 rfl ?_
  refine cV1i (q := 6) (d' := d + 0) dX12_drawn_3 mlX12_344 moX12_draw mvX12_draw k211 rfl rfl rfl (Nat.le_refl _) rfl rfl rfl (p_X12_draw 6 (by decide) (by decide)) (fun r1 m1 e1 => ?_)
  obtain ⟨rfl, rfl⟩ := e1
  have hd6 := drv_lt (drw (m 211 26)) (show 0 < 6 by decide)
  refine istore_n_1 (q := 7) dX12_drawn_6 rfl rfl rfl ?_
  refine Ev.iload_n (q := 8) dX12_drawn_7 rfl rfl ?_
  refine Ev.iconst (q := 9) dX12_drawn_8 ki_2 rfl ?_
  refine Ev.icmp_ge (tgt := 27) (q := 12) dX12_drawn_9 (by decide) rfl (fun h2 => ?_) (fun h2 => ?_)
  · skip
    refine Ev.iload_n (q := 28) dX12_drawn_27 rfl rfl ?_
    refine Ev.iconst (q := 29) dX12_drawn_28 ki_2 rfl ?_
    refine Ev.icmp_ne (tgt := 59) (q := 32) dX12_drawn_29 (by decide) rfl (fun h3 => ?_) (fun h3 => ?_)
    · skip
      refine Ev.aload_n (q := 60) dX12_drawn_59 rfl rfl ?_
      refine Ev.aload_n (q := 61) dX12_drawn_60 rfl rfl ?_
      refine gR (q := 64) dX12_drawn_61 gfX12_13 k211 r211_1 rfl rfl ?_
      refine Ev.iconst (q := 65) dX12_drawn_64 ki_3 rfl ?_
      refine aI (q := 66) (k := 3) dX12_drawn_65 k212 (by rfl) (by decide) rfl ?_
      rw [up_o _ _ (by decide), hP]
      refine cV1i (q := 69) (d' := d + 0) dX12_drawn_66 mlX12_344 moX12_draw mvX12_draw k211 rfl rfl rfl (Nat.le_refl _) rfl rfl rfl (p_X12_draw P (by omega) (by omega)) (fun r4 m4 e4 => ?_)
      obtain ⟨rfl, rfl⟩ := e4
      rw [up_eq, up_up]
      have b2 := drv_lt (drw (drw (m 211 26))) (show 0 < P by omega)
      refine istore_n_2 (q := 70) dX12_drawn_69 rfl rfl rfl ?_
      refine Ev.iload_n (q := 71) dX12_drawn_70 rfl rfl ?_
      refine Ev.iconst (q := 72) dX12_drawn_71 ki_3 rfl ?_
      refine Ev.icmp_ne (tgt := 83) (q := 75) dX12_drawn_72 (by decide) rfl (fun h5 => ?_) (fun h5 => ?_)
      · skip
        refine Ev.iload_n (q := 84) dX12_drawn_83 rfl rfl ?_
        refine Ev.iconst (q := 85) dX12_drawn_84 ki_4 rfl ?_
        refine Ev.icmp_ne (tgt := 110) (q := 88) dX12_drawn_85 (by decide) rfl (fun h6 => ?_) (fun h6 => ?_)
        · skip
          refine Ev.sipush (q := 113) dX12_drawn_110 kh_5000 rfl ?_
          refine Ev.bipush (q := 115) dX12_drawn_113 kb_100 rfl ?_
          refine Ev.iload_n (q := 116) dX12_drawn_115 rfl rfl ?_
          refine Ev.imul (q := 117) dX12_drawn_116 rfl ?_
          refine Ev.iadd (q := 118) dX12_drawn_117 rfl ?_
          refine Ev.aload_n (q := 119) dX12_drawn_118 rfl rfl ?_
          refine Ev.aload_n (q := 120) dX12_drawn_119 rfl rfl ?_
          refine gR (q := 123) dX12_drawn_120 gfX12_13 k211 r211_1 rfl rfl ?_
          refine Ev.iconst (q := 124) dX12_drawn_123 ki_1 rfl ?_
          refine aI (q := 125) (k := 1) dX12_drawn_124 k212 (by rfl) (by decide) rfl ?_
          rw [up_o _ _ (by decide), hF]
          refine cV1i (q := 128) (d' := d + 0) dX12_drawn_125 mlX12_344 moX12_draw mvX12_draw k211 rfl rfl rfl (Nat.le_refl _) rfl rfl rfl (p_X12_draw F (by omega) (by omega)) (fun r7 m7 e7 => ?_)
          obtain ⟨rfl, rfl⟩ := e7
          rw [up_eq, up_up]
          have b3 := drv_lt (drw (drw (drw (m 211 26)))) (show 0 < F by omega)
          refine Ev.iadd (q := 129) dX12_drawn_128 rfl ?_
          refine rI dX12_drawn_129 rfl ?_
          refine ⟨?_, ?_⟩
          · unfold drnV numD
            rw [if_neg (show ¬ drv (drw (m 211 26)) 6 < 2 by omega), if_neg (show ¬ drv (drw (m 211 26)) 6 = 2 by omega), if_neg (show ¬ drv (drw (m 211 26)) 6 = 3 by omega), if_neg (show ¬ drv (drw (m 211 26)) 6 = 4 by omega)]
            simp (decide := true) only [if_true, if_false]
            simp (disch := omega) only [w32_of]
            omega
          · unfold drnV
            rw [if_neg (show ¬ drv (drw (m 211 26)) 6 < 2 by omega), if_neg (show ¬ drv (drw (m 211 26)) 6 = 2 by omega), if_neg (show ¬ drv (drw (m 211 26)) 6 = 3 by omega), if_neg (show ¬ drv (drw (m 211 26)) 6 = 4 by omega)]
        · skip
          refine Ev.sipush (q := 91) dX12_drawn_88 kh_4000 rfl ?_
          refine Ev.bipush (q := 93) dX12_drawn_91 kb_10 rfl ?_
          refine Ev.iload_n (q := 94) dX12_drawn_93 rfl rfl ?_
          refine Ev.imul (q := 95) dX12_drawn_94 rfl ?_
          refine Ev.iadd (q := 96) dX12_drawn_95 rfl ?_
          refine Ev.aload_n (q := 97) dX12_drawn_96 rfl rfl ?_
          refine Ev.aload_n (q := 98) dX12_drawn_97 rfl rfl ?_
          refine gR (q := 101) dX12_drawn_98 gfX12_13 k211 r211_1 rfl rfl ?_
          refine Ev.iconst (q := 102) dX12_drawn_101 ki_2 rfl ?_
          refine aI (q := 103) (k := 2) dX12_drawn_102 k212 (by rfl) (by decide) rfl ?_
          rw [up_o _ _ (by decide), hL]
          refine cV1i (q := 106) (d' := d + 0) dX12_drawn_103 mlX12_344 moX12_draw mvX12_draw k211 rfl rfl rfl (Nat.le_refl _) rfl rfl rfl (p_X12_draw L (by omega) (by omega)) (fun r8 m8 e8 => ?_)
          obtain ⟨rfl, rfl⟩ := e8
          rw [up_eq, up_up]
          have b3 := drv_lt (drw (drw (drw (m 211 26)))) (show 0 < L by omega)
          refine Ev.iadd (q := 107) dX12_drawn_106 rfl ?_
          refine Ev.goto (q := 129) dX12_drawn_107 (by decide) ?_
          refine rI dX12_drawn_129 rfl ?_
          refine ⟨?_, ?_⟩
          · unfold drnV numD
            rw [if_neg (show ¬ drv (drw (m 211 26)) 6 < 2 by omega), if_neg (show ¬ drv (drw (m 211 26)) 6 = 2 by omega), if_neg (show ¬ drv (drw (m 211 26)) 6 = 3 by omega), if_pos (show drv (drw (m 211 26)) 6 = 4 by omega)]
            simp (decide := true) only [if_true, if_false]
            simp (disch := omega) only [w32_of]
            omega
          · unfold drnV
            rw [if_neg (show ¬ drv (drw (m 211 26)) 6 < 2 by omega), if_neg (show ¬ drv (drw (m 211 26)) 6 = 2 by omega), if_neg (show ¬ drv (drw (m 211 26)) 6 = 3 by omega), if_pos (show drv (drw (m 211 26)) 6 = 4 by omega)]
      · skip
        refine Ev.sipush (q := 78) dX12_drawn_75 kh_3000 rfl ?_
        refine Ev.iload_n (q := 79) dX12_drawn_78 rfl rfl ?_
        refine Ev.iadd (q := 80) dX12_drawn_79 rfl ?_
        refine Ev.goto (q := 129) dX12_drawn_80 (by decide) ?_
        refine rI dX12_drawn_129 rfl ?_
        refine ⟨?_, ?_⟩
        · unfold drnV numD
          rw [if_neg (show ¬ drv (drw (m 211 26)) 6 < 2 by omega), if_neg (show ¬ drv (drw (m 211 26)) 6 = 2 by omega), if_pos (show drv (drw (m 211 26)) 6 = 3 by omega)]
          simp (decide := true) only [if_true, if_false]
          simp (disch := omega) only [w32_of]
          omega
        · unfold drnV
          rw [if_neg (show ¬ drv (drw (m 211 26)) 6 < 2 by omega), if_neg (show ¬ drv (drw (m 211 26)) 6 = 2 by omega), if_pos (show drv (drw (m 211 26)) 6 = 3 by omega)]
    · skip
      refine Ev.aload_n (q := 33) dX12_drawn_32 rfl rfl ?_
      refine Ev.aload_n (q := 34) dX12_drawn_33 rfl rfl ?_
      refine gR (q := 37) dX12_drawn_34 gfX12_13 k211 r211_1 rfl rfl ?_
      refine Ev.iconst (q := 38) dX12_drawn_37 ki_2 rfl ?_
      refine aI (q := 39) (k := 2) dX12_drawn_38 k212 (by rfl) (by decide) rfl ?_
      rw [up_o _ _ (by decide), hL]
      refine cV1i (q := 42) (d' := d + 0) dX12_drawn_39 mlX12_344 moX12_draw mvX12_draw k211 rfl rfl rfl (Nat.le_refl _) rfl rfl rfl (p_X12_draw L (by omega) (by omega)) (fun r9 m9 e9 => ?_)
      obtain ⟨rfl, rfl⟩ := e9
      rw [up_eq, up_up]
      have b2 := drv_lt (drw (drw (m 211 26))) (show 0 < L by omega)
      refine istore_n_2 (q := 43) dX12_drawn_42 rfl rfl rfl ?_
      refine Ev.bipush (q := 45) dX12_drawn_43 kb_100 rfl ?_
      refine Ev.iload_n (q := 46) dX12_drawn_45 rfl rfl ?_
      refine Ev.imul (q := 47) dX12_drawn_46 rfl ?_
      refine Ev.aload_n (q := 48) dX12_drawn_47 rfl rfl ?_
      refine Ev.aload_n (q := 49) dX12_drawn_48 rfl rfl ?_
      refine gR (q := 52) dX12_drawn_49 gfX12_13 k211 r211_1 rfl rfl ?_
      refine Ev.iconst (q := 53) dX12_drawn_52 ki_1 rfl ?_
      refine aI (q := 54) (k := 1) dX12_drawn_53 k212 (by rfl) (by decide) rfl ?_
      rw [up_o _ _ (by decide), hF]
      refine cV1i (q := 57) (d' := d + 0) dX12_drawn_54 mlX12_344 moX12_draw mvX12_draw k211 rfl rfl rfl (Nat.le_refl _) rfl rfl rfl (p_X12_draw F (by omega) (by omega)) (fun r10 m10 e10 => ?_)
      obtain ⟨rfl, rfl⟩ := e10
      rw [up_eq, up_up]
      have b3 := drv_lt (drw (drw (drw (m 211 26)))) (show 0 < F by omega)
      refine Ev.iadd (q := 58) dX12_drawn_57 rfl ?_
      refine rI dX12_drawn_58 rfl ?_
      refine ⟨?_, ?_⟩
      · unfold drnV numD
        rw [if_neg (show ¬ drv (drw (m 211 26)) 6 < 2 by omega), if_pos (show drv (drw (m 211 26)) 6 = 2 by omega)]
        simp (decide := true) only [if_true, if_false]
        simp (disch := omega) only [w32_of]
        omega
      · unfold drnV
        rw [if_neg (show ¬ drv (drw (m 211 26)) 6 < 2 by omega), if_pos (show drv (drw (m 211 26)) 6 = 2 by omega)]
  · skip
    refine Ev.sipush (q := 15) dX12_drawn_12 kh_2000 rfl ?_
    refine Ev.aload_n (q := 16) dX12_drawn_15 rfl rfl ?_
    refine Ev.aload_n (q := 17) dX12_drawn_16 rfl rfl ?_
    refine gR (q := 20) dX12_drawn_17 gfX12_13 k211 r211_1 rfl rfl ?_
    refine Ev.iconst (q := 21) dX12_drawn_20 ki_2 rfl ?_
    refine aI (q := 22) (k := 2) dX12_drawn_21 k212 (by rfl) (by decide) rfl ?_
    rw [up_o _ _ (by decide), hL]
    refine cV1i (q := 25) (d' := d + 0) dX12_drawn_22 mlX12_344 moX12_draw mvX12_draw k211 rfl rfl rfl (Nat.le_refl _) rfl rfl rfl (p_X12_draw L (by omega) (by omega)) (fun r11 m11 e11 => ?_)
    obtain ⟨rfl, rfl⟩ := e11
    rw [up_eq, up_up]
    have b2 := drv_lt (drw (drw (m 211 26))) (show 0 < L by omega)
    refine Ev.iadd (q := 26) dX12_drawn_25 rfl ?_
    refine rI dX12_drawn_26 rfl ?_
    refine ⟨?_, ?_⟩
    · unfold drnV numD
      rw [if_pos (show drv (drw (m 211 26)) 6 < 2 by omega)]
      simp (decide := true) only [if_true, if_false]
      simp (disch := omega) only [w32_of]
      omega
    · unfold drnV
      rw [if_pos (show drv (drw (m 211 26)) 6 < 2 by omega)]
