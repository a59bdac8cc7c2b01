/-! ===== the class: its cells ===== -/
def nowC : List Nat := [14, 44, 52, 77, 85, 93, 101, 109, 117, 125, 133, 141, 149, 157, 184, 203]
def houC : List Nat := [3, 33, 173, 192]
def triC : List Nat := [65, 67, 71, 73, 76]
def traC : List Nat := [165, 167, 169, 171]
theorem nowK : ∀ n ∈ nowC, K n = (0, 4) ∧ (rf n 0 = n + 1 ∧ rf n 1 = n + 2 ∧ rf n 2 = n + 3 ∧ rf n 3 = n + 4 ∧ rf n 4 = n + 5 ∧ rf n 5 = n + 6 ∧ rf n 6 = n + 7) ∧ K (n + 1) = (1, 3) ∧ K (n + 2) = (1, 3) ∧ K (n + 3) = (1, 3) ∧ K (n + 4) = (1, 3) ∧ K (n + 5) = (1, 8) ∧ K (n + 6) = (1, 8) ∧ K (n + 7) = (1, 8) ∧ (n = 14 ∨ (44 ≤ n ∧ n ≤ 52) ∨ (77 ≤ n ∧ n ≤ 157) ∨ n = 184 ∨ n = 203) := by decide +kernel
theorem houK : ∀ n ∈ houC, K n = (0, 1) ∧ (rf n 4 = n + 1 ∧ rf n 5 = n + 2 ∧ rf n 6 = n + 3 ∧ rf n 7 = n + 4 ∧ rf n 8 = n + 5 ∧ rf n 9 = n + 6 ∧ rf n 10 = n + 7 ∧ rf n 11 = n + 8 ∧ rf n 12 = n + 9 ∧ rf n 13 = n + 10) ∧ K (n + 1) = (1, 12) ∧ K (n + 2) = (1, 3) ∧ K (n + 3) = (1, 8) ∧ K (n + 4) = (1, 8) ∧ K (n + 5) = (1, 8) ∧ K (n + 6) = (1, 8) ∧ K (n + 7) = (1, 96) ∧ K (n + 8) = (1, 96) ∧ K (n + 9) = (1, 96) ∧ K (n + 10) = (1, 432) ∧ (n = 3 ∨ n = 33 ∨ n = 173 ∨ n = 192) := by decide +kernel
theorem triK : ∀ c ∈ triC, K c = (0, 10) ∧ rf c 0 = 33 ∧ (65 ≤ c ∧ c ≤ 76) := by decide +kernel
theorem traK : ∀ c ∈ traC, K c = (0, 9) ∧ rf c 2 = c + 1 ∧ K (c + 1) = (4, 40) ∧ (165 ≤ c ∧ c ≤ 171) := by decide +kernel
/-- what deeds change, in the cell n and those behind it -/
def NowR (g : Row) (m : Mem) (n : Nat) : Prop := (∀ l : Nat, (l : Int) < g 2 → m (n + 1) l = g (60 + l) ∧ m (n + 2) l = g (63 + l) ∧ m (n + 3) l = g (66 + l) ∧ m (n + 4) l = g (69 + l)) ∧ (∀ p : Nat, (p : Int) < g 3 → m (n + 5) p = g (72 + p) ∧ m (n + 6) p = g (80 + p) ∧ m (n + 7) p = g (88 + p))
/-- what the text tells, in the cell h and those behind it -/
def HouR (g : Row) (m : Mem) (h : Nat) : Prop := (m h 0 = g 1 ∧ m h 1 = g 0 ∧ m h 2 = g 2 ∧ m h 3 = g 3) ∧ (∀ f : Nat, f < 12 → m (h + 1) f = g (10 + f)) ∧
  (∀ l : Nat, (l : Int) < g 2 → m (h + 2) l = g (22 + l) ∧ ∀ f : Nat, (f : Int) < g 1 → ∀ n : Nat, 1 ≤ n → n < 12 → m (h + 10) ((l * 12 + f) * 12 + n) = stopV g l f n) ∧
  (∀ p : Nat, (p : Int) < g 3 → (m (h + 3) p = g (28 + p) ∧ m (h + 4) p = g (36 + p) ∧ m (h + 5) p = g (44 + p) ∧ m (h + 6) p = g (52 + p)) ∧ ∀ f : Nat, (f : Int) < g 1 → m (h + 7) (p * 12 + f) = stepV g p f 1 ∧ m (h + 8) (p * 12 + f) = stepV g p f 0 ∧ m (h + 9) (p * 12 + f) = footV g p f (g (28 + p)).toNat)
theorem NowR.keep {g : Row} {m m' : Mem} {n : Nat} (h : NowR g m n) (e : ∀ a, n < a → a ≤ n + 7 → m' a = m a) : NowR g m' n := by
  refine ⟨fun l hl => ?_, fun p hp => ?_⟩
  · rw [e (n + 1) (by omega) (by omega), e (n + 2) (by omega) (by omega), e (n + 3) (by omega) (by omega), e (n + 4) (by omega) (by omega)]
    exact h.1 l hl
  · rw [e (n + 5) (by omega) (by omega), e (n + 6) (by omega) (by omega), e (n + 7) (by omega) (by omega)]
    exact h.2 p hp
theorem HouR.keep {g : Row} {m m' : Mem} {n : Nat} (h : HouR g m n) (e : ∀ a, n ≤ a → a ≤ n + 10 → m' a = m a) : HouR g m' n := by
  unfold HouR
  rw [e n (by omega) (by omega), e (n + 1) (by omega) (by omega), e (n + 2) (by omega) (by omega), e (n + 3) (by omega) (by omega), e (n + 4) (by omega) (by omega), e (n + 5) (by omega) (by omega), e (n + 6) (by omega) (by omega), e (n + 7) (by omega) (by omega), e (n + 8) (by omega) (by omega), e (n + 9) (by omega) (by omega), e (n + 10) (by omega) (by omega)]
  exact h
theorem Fr.rowA {b : Nat} {m m' : Mem} (h : Fr (sA b) m m') {a : Nat} (e : a ≠ b) : m' a = m a := h.row a (fun _ => sA_f e)
/-! ===== the class: a ride beside the house ===== -/
def CT (m : Mem) (c l : Nat) (t : Tr) : Prop := m c 1 = l ∧ m c 2 = t.1 ∧ m c 3 = t.2.1 ∧ m c 4 = t.2.2.1 ∧ m c 5 = (if t.2.2.2.1 = true then 1 else 0)
def CTc (m : Mem) (c l : Nat) (t : Tr) : Prop := CT m c l t ∧ m c 6 = t.2.2.2.2
/-- the memory behind a row of writes to the fields of c -/
theorem CT.keep {m m' : Mem} {c l : Nat} {t : Tr} (h : CT m c l t) (e : m' c = m c) : CT m' c l t := by unfold CT; rw [e]; exact h
theorem pop_lt {s h : Nat} (hb : s.testBit h = false) (hh : h < 12) : pop s ≤ 11 := by
  have key : ∀ n, popN s n + (if h < n then 1 else 0) ≤ n := by
    intro n
    induction n with
    | zero => exact Nat.le_refl 0
    | succ n ih =>
      unfold popN
      by_cases e : h = n
      · subst e
        rw [hb]
        rw [if_neg (show ¬ h < h by omega)] at ih
        rw [if_pos (show h < h + 1 by omega)]
        simp
        omega
      · by_cases e2 : h < n
        · rw [if_pos e2] at ih
          rw [if_pos (show h < n + 1 by omega)]
          split <;> omega
        · rw [if_neg e2] at ih
          rw [if_neg (show ¬ h < n + 1 by omega)]
          split <;> omega
  have := key 12
  rw [if_pos hh] at this
  unfold pop
  omega
theorem pop_bit {s f : Nat} (hb : s.testBit f = true) (hf : f < 12) : 1 ≤ pop s := by
  have := pop_dif hb hf
  omega
theorem bit_and {s f : Nat} (hs : s < 4096) (hf : f < 12) : (o_iand s (o_ishl 1 f) = 0 ↔ s.testBit f = false) := by
  rw [ishl_1 f (by omega), iand_n (by omega)]
  cases hb : s.testBit f
  · refine ⟨fun _ => rfl, fun _ => ?_⟩
    have : s &&& 2 ^ f = 0 := by
      apply Nat.eq_of_testBit_eq
      intro i
      rw [Nat.testBit_and, Nat.testBit_two_pow, Nat.zero_testBit]
      by_cases e : f = i
      · subst e; rw [hb]; simp
      · simp [e]
    rw [this]
    rfl
  · refine ⟨fun z => ?_, fun z => by cases z⟩
    have h1 : (s &&& 2 ^ f).testBit f = true := by rw [Nat.testBit_and, Nat.testBit_two_pow, hb]; simp
    have h2 : s &&& 2 ^ f = 0 := by omega
    rw [h2, Nat.zero_testBit] at h1
    cases h1
theorem xor_lit {s f : Nat} (hs : s < 4096) (hf : f < 12) (hb : s.testBit f = true) : o_ixor s (o_ishl 1 f) = ((dif s (2 ^ f) : Nat) : Int) := by
  rw [ishl_1 f (by omega), ixor_n (k := 12) (by omega) (two_lt hf) (by omega)]
  congr 1
  apply Nat.eq_of_testBit_eq
  intro i
  rw [Nat.testBit_xor, dif_bit, Nat.testBit_two_pow]
  by_cases e : f = i
  · subst e; rw [hb]; simp
  · simp [e]
set_option maxRecDepth 4000 in
theorem p_X10_begin {Γ : Gm} {d : Nat} {m : Mem} (g : Row) (c n l : Nat) (hc : c ∈ triC) (hn : n ∈ nowC) (hI : HI g) (hl : (l : Int) < g 2) (hR : NowR g m n) : Ci Γ (d + 0) MX10_begin [rv c, rv n, iv l] m (fun r m' => CTc m' c l ((g (60 + l)).toNat, g (63 + l), (g (66 + l)).toNat, decide (g (69 + l) = 1), g (63 + l)) ∧ Fr (sA c) m m') := by
  refine Ci.of moX10_begin rfl rfl (fun hA hM => ?_)
  show Em Γ (d + 0) MX10_begin _ 0 [rv c, rv n, iv l] [] m
  obtain ⟨tcK, tcr, tcN⟩ := triK c hc
  obtain ⟨nwK, ⟨nwr0, nwr1, nwr2, nwr3, nwr4, nwr5, nwr6⟩, nwK0, nwK1, nwK2, nwK3, nwK4, nwK5, nwK6, nwN⟩ := nowK n hn
  obtain ⟨e1, e2, e3, e4⟩ := hR.1 l hl
  obtain ⟨q1, q2, q3, -⟩ := hI.lift hl
  have hL3 := hI.2.1
  refine Ev.aload_n (q := 1) dX10_begin_0 rfl rfl ?_
  refine Ev.iload_n (q := 2) dX10_begin_1 rfl rfl ?_
  refine pI (q := 5) dX10_begin_2 gfX10_9 tcK rfl rfl ?_
  refine Ev.aload_n (q := 6) dX10_begin_5 rfl rfl ?_
  refine Ev.aload_n (q := 7) dX10_begin_6 rfl rfl ?_
  refine gR (q := 10) dX10_begin_7 gfX10_34 nwK nwr0 rfl rfl ?_
  refine Ev.iload_n (q := 11) dX10_begin_10 rfl rfl ?_
  refine aI (q := 12) (k := l) dX10_begin_11 nwK0 (by first | rfl | omega | (simp (disch := omega) only [w32_of]; omega)) (by omega) rfl ?_
  rw [up_o _ _ (by omega), e1]
  refine pI (q := 15) dX10_begin_12 gfX10_15 tcK rfl rfl ?_
  refine Ev.aload_n (q := 16) dX10_begin_15 rfl rfl ?_
  refine Ev.aload_n (q := 17) dX10_begin_16 rfl rfl ?_
  refine gR (q := 20) dX10_begin_17 gfX10_40 nwK nwr1 rfl rfl ?_
  refine Ev.iload_n (q := 21) dX10_begin_20 rfl rfl ?_
  refine aI (q := 22) (k := l) dX10_begin_21 nwK1 (by first | rfl | omega | (simp (disch := omega) only [w32_of]; omega)) (by omega) rfl ?_
  rw [up_o _ _ (by omega), up_o _ _ (by omega), e2]
  refine pI (q := 25) dX10_begin_22 gfX10_18 tcK rfl rfl ?_
  refine Ev.aload_n (q := 26) dX10_begin_25 rfl rfl ?_
  refine Ev.aload_n (q := 27) dX10_begin_26 rfl rfl ?_
  refine gR (q := 30) dX10_begin_27 gfX10_43 nwK nwr2 rfl rfl ?_
  refine Ev.iload_n (q := 31) dX10_begin_30 rfl rfl ?_
  refine aI (q := 32) (k := l) dX10_begin_31 nwK2 (by first | rfl | omega | (simp (disch := omega) only [w32_of]; omega)) (by omega) rfl ?_
  rw [up_o _ _ (by omega), up_o _ _ (by omega), up_o _ _ (by omega), e3]
  refine pI (q := 35) dX10_begin_32 gfX10_21 tcK rfl rfl ?_
  refine Ev.aload_n (q := 36) dX10_begin_35 rfl rfl ?_
  refine Ev.aload_n (q := 37) dX10_begin_36 rfl rfl ?_
  refine gR (q := 40) dX10_begin_37 gfX10_45 nwK nwr3 rfl rfl ?_
  refine Ev.iload_n (q := 41) dX10_begin_40 rfl rfl ?_
  refine aI (q := 42) (k := l) dX10_begin_41 nwK3 (by first | rfl | omega | (simp (disch := omega) only [w32_of]; omega)) (by omega) rfl ?_
  rw [up_o _ _ (by omega), up_o _ _ (by omega), up_o _ _ (by omega), up_o _ _ (by omega), e4]
  refine pI (q := 45) dX10_begin_42 gfX10_24 tcK rfl rfl ?_
  refine Ev.aload_n (q := 46) dX10_begin_45 rfl rfl ?_
  refine Ev.aload_n (q := 47) dX10_begin_46 rfl rfl ?_
  refine gI (q := 50) dX10_begin_47 gfX10_18 tcK rfl rfl ?_
  rw [up_k _ _ (by decide), up_k _ _ (by decide), up_eq]
  refine pI (q := 53) dX10_begin_50 gfX10_27 tcK rfl rfl ?_
  refine rV dX10_begin_53 rfl ?_
  refine ⟨⟨⟨?_, ?_, ?_, ?_, ?_⟩, ?_⟩, ?_⟩
  · simp (disch := decide) only [up_k, up_eq]
  · simp (disch := decide) only [up_k, up_eq]
    omega
  · simp (disch := decide) only [up_k, up_eq]
  · simp (disch := decide) only [up_k, up_eq]
    omega
  · simp (disch := decide) only [up_k, up_eq]
    rcases q3 with q | q <;> rw [q] <;> rfl
  · simp (disch := decide) only [up_k, up_eq]
  · have s1 : ∀ k, sA c c k = true := fun k => by simp [sA]
    exact ((((((Fr.rf _ _).up (s1 _)).up (s1 _)).up (s1 _)).up (s1 _)).up (s1 _)).up (s1 _)
set_option maxRecDepth 4000 in
theorem l_nextAbove {Γ : Gm} {d : Nat} {m : Mem} (c s h : Nat) (tcK : K c = (0, 10)) (hs : m c 4 = s) (hs12 : s < 4096) : ∀ (n f : Nat), f + n = 12 → above s h = abv s n f → Em Γ (d + 0) MX10_nextAbove (fun r m' => r = optI (above s h) ∧ m' = m) 7 [rv c, iv f] [] m := by
  intro n
  induction n with
  | zero =>
    intro f hf hab
    refine Ev.iload_n (q := 8) dX10_nextAbove_7 rfl rfl ?_
    refine Ev.bipush (q := 10) dX10_nextAbove_8 kb_12 rfl ?_
    refine Ev.icmp_ge (tgt := 32) (q := 13) dX10_nextAbove_10 (by decide) rfl (fun h1 => ?_) (fun h1 => ?_)
    · skip
      refine Ev.iconst (q := 33) dX10_nextAbove_32 ki_m1 rfl ?_
      refine rI dX10_nextAbove_33 rfl ?_
      rw [hab]
      exact ⟨rfl, rfl⟩
    · skip
      omega
  | succ n ih =>
    intro f hf hab
    refine Ev.iload_n (q := 8) dX10_nextAbove_7 rfl rfl ?_
    refine Ev.bipush (q := 10) dX10_nextAbove_8 kb_12 rfl ?_
    refine Ev.icmp_ge (tgt := 32) (q := 13) dX10_nextAbove_10 (by decide) rfl (fun h1 => ?_) (fun h1 => ?_)
    · skip
      omega
    · skip
      refine Ev.aload_n (q := 14) dX10_nextAbove_13 rfl rfl ?_
      refine gI (q := 17) dX10_nextAbove_14 gfX10_21 tcK rfl rfl ?_
      refine Ev.iconst (q := 18) dX10_nextAbove_17 ki_1 rfl ?_
      refine Ev.iload_n (q := 19) dX10_nextAbove_18 rfl rfl ?_
      refine Ev.ishl (q := 20) dX10_nextAbove_19 rfl ?_
      refine Ev.iand (q := 21) dX10_nextAbove_20 rfl ?_
      rw [hs]
      refine Ev.if_eq (tgt := 26) (q := 24) dX10_nextAbove_21 (by decide) rfl (fun h2 => ?_) (fun h2 => ?_)
      · skip
        have hb := (bit_and hs12 (by omega)).mp h2
        refine iinc_1 (q := 29) dX10_nextAbove_26 rfl rfl rfl ?_
        refine Ev.goto (q := 7) dX10_nextAbove_29 (by decide) ?_
        rw [w32_of (by omega) (by omega)]
        exact ih (f + 1) (by omega) (by rw [hab]; conv => lhs; unfold abv; rw [if_neg (by rw [hb]; decide)])
      · skip
        have hb : s.testBit f = true := by
          cases hb : s.testBit f
          · exact absurd ((bit_and hs12 (by omega)).mpr hb) h2
          · rfl
        refine Ev.iload_n (q := 25) dX10_nextAbove_24 rfl rfl ?_
        refine rI dX10_nextAbove_25 rfl ?_
        rw [hab]
        unfold abv
        rw [if_pos hb]
        exact ⟨rfl, rfl⟩
set_option maxRecDepth 4000 in
theorem p_X10_nextAbove {Γ : Gm} {d : Nat} {m : Mem} (c s h : Nat) (hc : c ∈ triC) (hh : m c 2 = h) (hs : m c 4 = s) (hs12 : s < 4096) (hh12 : h < 12) : Ci Γ (d + 0) MX10_nextAbove [rv c] m (fun r m' => r = optI (above s h) ∧ m' = m) := by
  refine Ci.of moX10_nextAbove rfl rfl (fun hA hM => ?_)
  show Em Γ (d + 0) MX10_nextAbove _ 0 [rv c, uv] [] m
  obtain ⟨tcK, tcr, tcN⟩ := triK c hc
  refine Ev.aload_n (q := 1) dX10_nextAbove_0 rfl rfl ?_
  refine gI (q := 4) dX10_nextAbove_1 gfX10_15 tcK rfl rfl ?_
  rw [hh]
  refine Ev.iconst (q := 5) dX10_nextAbove_4 ki_1 rfl ?_
  refine Ev.iadd (q := 6) dX10_nextAbove_5 rfl ?_
  refine istore_n_1 (q := 7) dX10_nextAbove_6 rfl rfl rfl ?_
  rw [w32_of (by omega) (by omega)]
  exact l_nextAbove c s h tcK hs hs12 (11 - h) (h + 1) (by omega) rfl
set_option maxRecDepth 4000 in
theorem l_nextBelow {Γ : Gm} {d : Nat} {m : Mem} (c s h : Nat) (tcK : K c = (0, 10)) (hs : m c 4 = s) (hs12 : s < 4096) : ∀ (f : Nat), f ≤ 12 → blw s h = blw s f → Em Γ (d + 0) MX10_nextBelow (fun r m' => r = optI (blw s h) ∧ m' = m) 7 [rv c, iv ((f : Int) - 1)] [] m := by
  intro f
  induction f with
  | zero =>
    intro hf hab
    refine Ev.iload_n (q := 8) dX10_nextBelow_7 rfl rfl ?_
    refine Ev.if_lt (tgt := 30) (q := 11) dX10_nextBelow_8 (by decide) rfl (fun h1 => ?_) (fun h1 => ?_)
    · skip
      refine Ev.iconst (q := 31) dX10_nextBelow_30 ki_m1 rfl ?_
      refine rI dX10_nextBelow_31 rfl ?_
      rw [hab]
      exact ⟨rfl, rfl⟩
    · skip
      omega
  | succ f ih =>
    intro hf hab
    rw [show ((f + 1 : Nat) : Int) - 1 = (f : Int) by omega]
    refine Ev.iload_n (q := 8) dX10_nextBelow_7 rfl rfl ?_
    refine Ev.if_lt (tgt := 30) (q := 11) dX10_nextBelow_8 (by decide) rfl (fun h1 => ?_) (fun h1 => ?_)
    · skip
      omega
    · skip
      refine Ev.aload_n (q := 12) dX10_nextBelow_11 rfl rfl ?_
      refine gI (q := 15) dX10_nextBelow_12 gfX10_21 tcK rfl rfl ?_
      refine Ev.iconst (q := 16) dX10_nextBelow_15 ki_1 rfl ?_
      refine Ev.iload_n (q := 17) dX10_nextBelow_16 rfl rfl ?_
      refine Ev.ishl (q := 18) dX10_nextBelow_17 rfl ?_
      refine Ev.iand (q := 19) dX10_nextBelow_18 rfl ?_
      rw [hs]
      refine Ev.if_eq (tgt := 24) (q := 22) dX10_nextBelow_19 (by decide) rfl (fun h2 => ?_) (fun h2 => ?_)
      · skip
        have hb := (bit_and hs12 (by omega)).mp h2
        refine iinc_1 (q := 27) dX10_nextBelow_24 rfl rfl rfl ?_
        refine Ev.goto (q := 7) dX10_nextBelow_27 (by decide) ?_
        rw [w32_of (by omega) (by omega), show (f : Int) + -1 = (f : Int) - 1 by omega]
        exact ih (by omega) (by rw [hab]; conv => lhs; unfold blw; rw [if_neg (by rw [hb]; decide)])
      · skip
        have hb : s.testBit f = true := by
          cases hb : s.testBit f
          · exact absurd ((bit_and hs12 (by omega)).mpr hb) h2
          · rfl
        refine Ev.iload_n (q := 23) dX10_nextBelow_22 rfl rfl ?_
        refine rI dX10_nextBelow_23 rfl ?_
        rw [hab]
        unfold blw
        rw [if_pos hb]
        exact ⟨rfl, rfl⟩
set_option maxRecDepth 4000 in
theorem p_X10_nextBelow {Γ : Gm} {d : Nat} {m : Mem} (c s h : Nat) (hc : c ∈ triC) (hh : m c 2 = h) (hs : m c 4 = s) (hs12 : s < 4096) (hh12 : h < 12) : Ci Γ (d + 0) MX10_nextBelow [rv c] m (fun r m' => r = optI (blw s h) ∧ m' = m) := by
  refine Ci.of moX10_nextBelow rfl rfl (fun hA hM => ?_)
  show Em Γ (d + 0) MX10_nextBelow _ 0 [rv c, uv] [] m
  obtain ⟨tcK, tcr, tcN⟩ := triK c hc
  refine Ev.aload_n (q := 1) dX10_nextBelow_0 rfl rfl ?_
  refine gI (q := 4) dX10_nextBelow_1 gfX10_15 tcK rfl rfl ?_
  rw [hh]
  refine Ev.iconst (q := 5) dX10_nextBelow_4 ki_1 rfl ?_
  refine Ev.isub (q := 6) dX10_nextBelow_5 rfl ?_
  refine istore_n_1 (q := 7) dX10_nextBelow_6 rfl rfl rfl ?_
  rw [w32_of (by omega) (by omega)]
  exact l_nextBelow c s h tcK hs hs12 h (by omega) rfl
set_option maxRecDepth 4000 in
theorem p_X10_nextStop {Γ : Gm} {d : Nat} {m : Mem} (c s h : Nat) (u : Bool) (hc : c ∈ triC) (hh : m c 2 = h) (hs : m c 4 = s) (hu : m c 5 = (if u = true then 1 else 0)) (hs12 : s < 4096) (hh12 : h < 12) : Ci Γ (d + 1) MX10_nextStop [rv c] m (fun r m' => r = optI (nxt s h u) ∧ m' = m) := by
  refine Ci.of moX10_nextStop rfl rfl (fun hA hM => ?_)
  show Em Γ (d + 1) MX10_nextStop _ 0 [rv c, uv] [] m
  obtain ⟨tcK, tcr, tcN⟩ := triK c hc
  cases u
  · have hu : m c 5 = 0 := hu
    refine Ev.aload_n (q := 1) dX10_nextStop_0 rfl rfl ?_
    refine gI (q := 4) dX10_nextStop_1 gfX10_24 tcK rfl rfl ?_
    refine Ev.iconst (q := 5) dX10_nextStop_4 ki_1 rfl ?_
    rw [hu]
    refine Ev.icmp_ne (tgt := 15) (q := 8) dX10_nextStop_5 (by decide) rfl (fun h1 => ?_) (fun h1 => ?_)
    · skip
      refine Ev.aload_n (q := 16) dX10_nextStop_15 rfl rfl ?_
      refine cV0i (q := 19) (d' := d + 0) dX10_nextStop_16 mlX10_51 moX10_nextBelow mvX10_nextBelow tcK rfl rfl rfl (Nat.le_refl _) rfl rfl rfl (p_X10_nextBelow c s h hc hh hs hs12 hh12) (fun r2 m2 e2 => ?_)
      obtain ⟨rfl, e2⟩ := e2
      obtain rfl := e2.symm
      refine istore_n_1 (q := 20) dX10_nextStop_19 rfl rfl rfl ?_
      refine Ev.iload_n (q := 21) dX10_nextStop_20 rfl rfl ?_
      refine Ev.iconst (q := 22) dX10_nextStop_21 ki_m1 rfl ?_
      refine Ev.icmp_eq (tgt := 27) (q := 25) dX10_nextStop_22 (by decide) rfl (fun h3 => ?_) (fun h3 => ?_)
      · skip
        have hx : optI (blw s h) = -1 := h3
        refine Ev.aload_n (q := 28) dX10_nextStop_27 rfl rfl ?_
        refine gI (q := 31) dX10_nextStop_28 gfX10_24 tcK rfl rfl ?_
        refine Ev.iconst (q := 32) dX10_nextStop_31 ki_1 rfl ?_
        rw [hu]
        refine Ev.icmp_ne (tgt := 42) (q := 35) dX10_nextStop_32 (by decide) rfl (fun h4 => ?_) (fun h4 => ?_)
        · skip
          refine Ev.aload_n (q := 43) dX10_nextStop_42 rfl rfl ?_
          refine cV0i (q := 46) (d' := d + 0) dX10_nextStop_43 mlX10_47 moX10_nextAbove mvX10_nextAbove tcK rfl rfl rfl (Nat.le_refl _) rfl rfl rfl (p_X10_nextAbove c s h hc hh hs hs12 hh12) (fun r5 m5 e5 => ?_)
          obtain ⟨rfl, e5⟩ := e5
          obtain rfl := e5.symm
          refine rI dX10_nextStop_46 rfl ?_
          refine ⟨?_, rfl⟩
          unfold nxt
          cases hq : blw s h with
          | none => rfl
          | some k => rw [hq] at hx; exact absurd hx (show ¬ (k : Int) = -1 by omega)
        · skip
          omega
      · skip
        have hx : ¬ optI (blw s h) = -1 := h3
        refine Ev.iload_n (q := 26) dX10_nextStop_25 rfl rfl ?_
        refine rI dX10_nextStop_26 rfl ?_
        refine ⟨?_, rfl⟩
        unfold nxt
        cases hq : blw s h with
        | none => rw [hq] at hx; exact absurd rfl hx
        | some k => rfl
    · skip
      omega
  · have hu : m c 5 = 1 := hu
    refine Ev.aload_n (q := 1) dX10_nextStop_0 rfl rfl ?_
    refine gI (q := 4) dX10_nextStop_1 gfX10_24 tcK rfl rfl ?_
    refine Ev.iconst (q := 5) dX10_nextStop_4 ki_1 rfl ?_
    rw [hu]
    refine Ev.icmp_ne (tgt := 15) (q := 8) dX10_nextStop_5 (by decide) rfl (fun h1 => ?_) (fun h1 => ?_)
    · skip
      omega
    · skip
      refine Ev.aload_n (q := 9) dX10_nextStop_8 rfl rfl ?_
      refine cV0i (q := 12) (d' := d + 0) dX10_nextStop_9 mlX10_47 moX10_nextAbove mvX10_nextAbove tcK rfl rfl rfl (Nat.le_refl _) rfl rfl rfl (p_X10_nextAbove c s h hc hh hs hs12 hh12) (fun r2 m2 e2 => ?_)
      obtain ⟨rfl, e2⟩ := e2
      obtain rfl := e2.symm
      refine Ev.goto (q := 19) dX10_nextStop_12 (by decide) ?_
      refine istore_n_1 (q := 20) dX10_nextStop_19 rfl rfl rfl ?_
      refine Ev.iload_n (q := 21) dX10_nextStop_20 rfl rfl ?_
      refine Ev.iconst (q := 22) dX10_nextStop_21 ki_m1 rfl ?_
      refine Ev.icmp_eq (tgt := 27) (q := 25) dX10_nextStop_22 (by decide) rfl (fun h3 => ?_) (fun h3 => ?_)
      · skip
        have hx : optI (above s h) = -1 := h3
        refine Ev.aload_n (q := 28) dX10_nextStop_27 rfl rfl ?_
        refine gI (q := 31) dX10_nextStop_28 gfX10_24 tcK rfl rfl ?_
        refine Ev.iconst (q := 32) dX10_nextStop_31 ki_1 rfl ?_
        rw [hu]
        refine Ev.icmp_ne (tgt := 42) (q := 35) dX10_nextStop_32 (by decide) rfl (fun h4 => ?_) (fun h4 => ?_)
        · skip
          omega
        · skip
          refine Ev.aload_n (q := 36) dX10_nextStop_35 rfl rfl ?_
          refine cV0i (q := 39) (d' := d + 0) dX10_nextStop_36 mlX10_51 moX10_nextBelow mvX10_nextBelow tcK rfl rfl rfl (Nat.le_refl _) rfl rfl rfl (p_X10_nextBelow c s h hc hh hs hs12 hh12) (fun r5 m5 e5 => ?_)
          obtain ⟨rfl, e5⟩ := e5
          obtain rfl := e5.symm
          refine Ev.goto (q := 46) dX10_nextStop_39 (by decide) ?_
          refine rI dX10_nextStop_46 rfl ?_
          refine ⟨?_, rfl⟩
          unfold nxt
          cases hq : above s h with
          | none => rfl
          | some k => rw [hq] at hx; exact absurd hx (show ¬ (k : Int) = -1 by omega)
      · skip
        have hx : ¬ optI (above s h) = -1 := h3
        refine Ev.iload_n (q := 26) dX10_nextStop_25 rfl rfl ?_
        refine rI dX10_nextStop_26 rfl ?_
        refine ⟨?_, rfl⟩
        unfold nxt
        cases hq : above s h with
        | none => rw [hq] at hx; exact absurd rfl hx
        | some k => rfl
