/-! ===== how great sums can be ===== -/
theorem bstL_bd {sp : Int} {st : Nat → Nat → Int} {ft : Nat → Int} : ∀ (n : Nat) (t : Tr) (b : Int × Int), (-2147483648 ≤ b.1 ∧ b.1 < 2147483648) → -2147483648 ≤ (bstL sp st ft n t b).1 ∧ (bstL sp st ft n t b).1 < 2147483648 := by
  intro n
  induction n with
  | zero => intro t b h; exact h
  | succ n ih =>
    intro t b h
    unfold bstL
    split
    · exact h
    · refine ih _ _ ?_
      split
      · exact ⟨w32_lo _, w32_hi _⟩
      · exact h
theorem bestV_bd (g : Nat → Int) (p lit : Nat) : -2147483648 ≤ (bestV g p lit).1 ∧ (bestV g p lit).1 < 2147483648 := by
  unfold bestV
  dsimp only
  split
  · exact ⟨w32_lo _, w32_hi _⟩
  · exact bstL_bd _ _ _ ⟨w32_lo _, w32_hi _⟩
theorem mul_w {a b : Int} (ha : -2147483648 ≤ a ∧ a < 2147483648) (hb : 1 ≤ b ∧ b ≤ 99) : -212600881152 ≤ a * b ∧ a * b ≤ 212600881152 := by
  have h := Nat.mul_le_mul (show a.natAbs ≤ 2147483648 by omega) (show b.natAbs ≤ 99 by omega)
  rw [← Int.natAbs_mul] at h
  omega
theorem sumN_bd {g : Nat → Int} (hI : HI g) {l lit : Nat} : ∀ n : Nat, (n : Int) ≤ g 3 → -(212600881152 * (n : Int)) ≤ sumN g l lit n ∧ sumN g l lit n ≤ 212600881152 * (n : Int) := by
  have hP8 := hI.2.2.1
  intro n
  induction n with
  | zero => intro _; exact ⟨by show -(212600881152 * (0 : Int)) ≤ 0; omega, by show (0 : Int) ≤ 212600881152 * 0; omega⟩
  | succ n ih =>
    intro hn
    have h1 := ih (by omega)
    have h2 := mul_w (bestV_bd g n lit) (hI.pers (p := n) (by omega)).2.2.2.1
    unfold sumN
    split
    · rw [w64_of (z := (bestV g n lit).1 * g (52 + n)) (by omega) (by omega), w64_of (by omega) (by omega)]
      omega
    · omega
theorem sumV_bd {g : Nat → Int} (hI : HI g) (l lit : Nat) : -1700807049216 ≤ sumV g l lit ∧ sumV g l lit ≤ 1700807049216 := by
  have hP8 := hI.2.2.1
  have h := sumN_bd hI (l := l) (lit := lit) (g 3).toNat (by omega)
  unfold sumV
  omega
theorem latN_bd {g : Nat → Int} {l lit : Nat} (n : Nat) : 0 ≤ latN g l lit n ∧ latN g l lit n < 2147483648 := by
  induction n with
  | zero => exact ⟨Int.le_refl _, by show (0 : Int) < _; omega⟩
  | succ n ih =>
    have := bestV_bd g n lit
    unfold latN
    repeat (first | omega | split)
theorem valV_bd {g : Nat → Int} (hI : HI g) (l lit : Nat) (fair : Bool) : -1000000000000000 < valV g l lit fair ∧ valV g l lit fair < 1000000000000000 := by
  unfold valV
  split
  · have := latN_bd (g := g) (l := l) (lit := lit) (g 3).toNat
    unfold latV
    omega
  · have := sumV_bd hI l lit
    omega
theorem tkW_bd {g : Nat → Int} (hI : HI g) {l k f : Nat} {c s0 B : Int} (hc : -2147483648 ≤ c ∧ c < 2147483648) (hs : -B ≤ s0 ∧ s0 ≤ B) (hB : B ≤ 100000000000000) : ∀ n : Nat, (n : Int) ≤ g 3 → -(B + 212600881152 * (n : Int)) ≤ tkW g l k f c s0 n ∧ tkW g l k f c s0 n ≤ B + 212600881152 * (n : Int) := by
  have hP8 := hI.2.2.1
  intro n
  induction n with
  | zero => intro _; unfold tkW; omega
  | succ n ih =>
    intro hn
    have h1 := ih (by omega)
    have h2 := mul_w hc (hI.pers (p := n) (by omega)).2.2.2.1
    unfold tkW
    split
    · rw [w64_of (z := c * g (52 + n)) (by omega) (by omega), w64_of (by omega) (by omega)]
      omega
    · omega
theorem tgo_came_bd {sp : Int} {st : Nat → Nat → Int} {t t' : Tr} (h : tgo sp st t = some t') : -2147483648 ≤ t'.2.2.2.2 ∧ t'.2.2.2.2 < 2147483648 := by
  unfold tgo at h
  split at h
  · cases h
  · cases h
    exact ⟨w32_lo _, w32_hi _⟩
theorem tkL_bd {g : Nat → Int} (hI : HI g) {l k one : Nat} : ∀ (n : Nat) (t : Tr) (s B : Int), (-B ≤ s ∧ s ≤ B) → B + 1700807049216 * (n : Int) ≤ 100000000000000 → -(B + 1700807049216 * (n : Int)) ≤ tkL g l k one n t s ∧ tkL g l k one n t s ≤ B + 1700807049216 * (n : Int) := by
  have hP8 := hI.2.2.1
  intro n
  induction n with
  | zero => intro t s B h1 h2; unfold tkL; omega
  | succ n ih =>
    intro t s B h1 h2
    unfold tkL
    split
    · omega
    · rename_i t' ht'
      have hc := tgo_came_bd ht'
      have h3 := tkW_bd hI (l := l) (k := k) (f := t'.1) hc h1 (by omega) (g 3).toNat (by omega)
      have h4 := ih t' (tkW g l k t'.1 t'.2.2.2.2 s (g 3).toNat) (B + 1700807049216) (by omega) (by omega)
      omega
theorem takV_bd {g : Nat → Int} (hI : HI g) (one l k fl : Nat) : -22110491639808 ≤ takV g one l k fl ∧ takV g one l k fl ≤ 22110491639808 := by
  unfold takV
  have := tkL_bd hI (l := l) (k := k) (one := one) 13 ((g (60 + one)).toNat, tkS g l k fl (g (63 + one)) (g 3).toNat, fl, decide (g (69 + one) = 1), 0) 0 0 (by omega) (by omega)
  omega
theorem parV_bd {g : Nat → Int} (hI : HI g) (l k s : Nat) : parV g l k s < 1000000000000000 := by
  unfold parV
  have h1 := takV_bd hI l l k s
  have h2 := takV_bd hI k l k (dif (hms g l k (g 3).toNat) s)
  rw [w64_of (by omega) (by omega)]
  omega
theorem prtV_fs {g : Nat → Int} (hI : HI g) (l k : Nat) (fs fs' : Int) : prtV g l k fs = prtV g l k fs' := by
  unfold prtV
  unfold prt
  have hz : ∀ h : Nat, ¬ dif 0 h ≠ 0 := fun h z => z (by unfold dif; rw [Nat.zero_and]; rfl)
  rw [if_neg (hz _), if_pos (parV_bd hI l k 0), if_neg (hz _), if_pos (parV_bd hI l k 0)]
def q_parting (g : Nat → Int) (l k what : Int) : Int := if (0 ≤ l ∧ l < g 2) ∧ (0 ≤ k ∧ k < g 2) ∧ ¬ l = k ∧ (0 ≤ what ∧ what ≤ 1) then (if g (60 + l.toNat) = g (60 + k.toNat) then (if what = 0 then (prtV g l.toNat k.toNat 0).1 else (prtV g l.toNat k.toNat 0).2) else -5) else -2
/-! ===== the boy ===== -/
def freS (g : Nat → Int) (l : Nat) : Nat := dif (dif (2 ^ (g 1).toNat - 1) (litV g l)) (2 ^ (g (60 + l)).toNat)
def byN (val : Nat → Int) (lit free n : Nat) (now : Int) : Nat → Nat → Int → Int → Int × Int
  | 0, _, a, b => (a, b)
  | k + 1, s, a, b => if dif s free ≠ 0 ∨ ¬ pop s = n then byN val lit free n now k (s + 1) a b else byN val lit free n now k (s + 1) (w64 (a + w64 (val (lit ||| s) - now))) (b + 1)
def byV (g : Nat → Int) (l n : Nat) : Int × Int := byN (sumV g l) (litV g l) (freS g l) n (sumV g l (litV g l)) (freS g l + 1) 0 0 0
def q_boy (g : Nat → Int) (l n what : Int) : Int := if (0 ≤ l ∧ l < g 2) ∧ (0 ≤ what ∧ what ≤ 1) ∧ (0 ≤ n ∧ n ≤ 11) ∧ n ≤ (pop (freS g l.toNat) : Int) then
  (if what = 0 then o_ldiv (byV g l.toNat n.toNat).1 (Int.gcd (byV g l.toNat n.toNat).1 (byV g l.toNat n.toNat).2 : Int) else o_ldiv (byV g l.toNat n.toNat).2 (Int.gcd (byV g l.toNat n.toNat).1 (byV g l.toNat n.toNat).2 : Int)) else -2000000000
theorem pop_pos {s : Nat} (h : 0 < pop s) : ∃ f, f < 12 ∧ s.testBit f = true := by
  have key : ∀ n, 0 < popN s n → ∃ f, f < n ∧ s.testBit f = true := by
    intro n
    induction n with
    | zero => intro h; exact absurd h (by unfold popN; omega)
    | succ n ih =>
      intro h
      by_cases hb : s.testBit n = true
      · exact ⟨n, by omega, hb⟩
      · unfold popN at h
        rw [if_neg hb] at h
        obtain ⟨f, h1, h2⟩ := ih (by omega)
        exact ⟨f, by omega, h2⟩
  exact key 12 h
theorem sub_of {free : Nat} : ∀ (k n : Nat), n + k = pop free → ∃ s, s ≤ free ∧ dif s free = 0 ∧ pop s = n := by
  intro k
  induction k with
  | zero => intro n hn; exact ⟨free, Nat.le_refl _, by unfold dif; rw [Nat.and_self, Nat.xor_self], by omega⟩
  | succ k ih =>
    intro n hn
    obtain ⟨s, h1, h2, h3⟩ := ih (n + 1) (by omega)
    obtain ⟨f, hf, hb⟩ := pop_pos (s := s) (by omega)
    refine ⟨dif s (2 ^ f), Nat.le_trans (dif_le _ _) h1, ?_, ?_⟩
    · apply Nat.eq_of_testBit_eq
      intro i
      rw [dif_bit, dif_bit, Nat.zero_testBit]
      cases hs : s.testBit i
      · rfl
      · rw [dif_sub h2 hs]
        simp
    · have := pop_dif hb hf
      omega
theorem byN_pos {val : Nat → Int} {lit free n : Nat} {now : Int} : ∀ (k s : Nat) (a b : Int), b ≤ (byN val lit free n now k s a b).2 ∧ (byN val lit free n now k s a b).2 ≤ b + k ∧ ((∃ s0, s ≤ s0 ∧ s0 < s + k ∧ dif s0 free = 0 ∧ pop s0 = n) → b < (byN val lit free n now k s a b).2) := by
  intro k
  induction k with
  | zero => intro s a b; exact ⟨Int.le_refl _, by unfold byN; omega, fun ⟨s0, h1, h2, _⟩ => by omega⟩
  | succ k ih =>
    intro s a b
    unfold byN
    split
    · rename_i hq
      have h := ih (s + 1) a b
      refine ⟨h.1, by omega, fun ⟨s0, h1, h2, h3, h4⟩ => h.2.2 ⟨s0, ?_, by omega, h3, h4⟩⟩
      by_cases e : s0 = s
      · subst e
        rcases hq with q | q
        · exact absurd h3 q
        · exact absurd h4 q
      · omega
    · have h := ih (s + 1) (w64 (a + w64 (val (lit ||| s) - now))) (b + 1)
      exact ⟨by omega, by omega, fun _ => by omega⟩
theorem byN_bd {val : Nat → Int} {lit free n : Nat} {now : Int} (hv : ∀ s, -1700807049216 ≤ val s ∧ val s ≤ 1700807049216) (hn : -1700807049216 ≤ now ∧ now ≤ 1700807049216) : ∀ (k s : Nat) (a b B : Int), (-B ≤ a ∧ a ≤ B) → B + 3401614098432 * (k : Int) ≤ 100000000000000000 → -(B + 3401614098432 * (k : Int)) ≤ (byN val lit free n now k s a b).1 ∧ (byN val lit free n now k s a b).1 ≤ B + 3401614098432 * (k : Int) := by
  intro k
  induction k with
  | zero => intro s a b B h1 h2; unfold byN; dsimp only; omega
  | succ k ih =>
    intro s a b B h1 h2
    unfold byN
    split
    · have := ih (s + 1) a b B h1 (by omega)
      omega
    · have hq := hv (lit ||| s)
      rw [w64_of (z := val (lit ||| s) - now) (by omega) (by omega), w64_of (by omega) (by omega)]
      have := ih (s + 1) (a + (val (lit ||| s) - now)) (b + 1) (B + 3401614098432) (by omega) (by omega)
      omega
theorem freS_ok {g : Nat → Int} (hI : HI g) {l : Nat} (hl : (l : Int) < g 2) : freS g l < 2 ^ (g 1).toNat ∧ (freS g l).testBit (g (60 + l)).toNat = false := by
  have hp := Nat.two_pow_pos (g 1).toNat
  refine ⟨?_, ?_⟩
  · have h1 := dif_le (dif (2 ^ (g 1).toNat - 1) (litV g l)) (2 ^ (g (60 + l)).toNat)
    have h2 := dif_le (2 ^ (g 1).toNat - 1) (litV g l)
    unfold freS
    omega
  · unfold freS
    rw [dif_bit, Nat.testBit_two_pow]
    simp
theorem byV_ok {g : Nat → Int} (hI : HI g) {l n : Nat} (hl : (l : Int) < g 2) (hn : n ≤ pop (freS g l)) : (-100000000000000000 ≤ (byV g l n).1 ∧ (byV g l n).1 ≤ 100000000000000000) ∧ 0 < (byV g l n).2 ∧ (byV g l n).2 ≤ 4096 := by
  have h4 := lt4096 (freS_ok hI hl).1 hI.F12
  obtain ⟨s0, h1, h2, h3⟩ := sub_of (free := freS g l) (pop (freS g l) - n) n (by omega)
  have hp := byN_pos (val := sumV g l) (lit := litV g l) (free := freS g l) (n := n) (now := sumV g l (litV g l)) (freS g l + 1) 0 0 0
  have hb := byN_bd (lit := litV g l) (free := freS g l) (n := n) (fun s => sumV_bd hI l s) (sumV_bd hI l (litV g l)) (freS g l + 1) 0 0 0 0 (by omega) (by omega)
  unfold byV
  refine ⟨⟨by omega, by omega⟩, hp.2.2 ⟨s0, by omega, by omega, h2, h3⟩, by omega⟩
theorem gcd_pos {a b : Int} (h : 0 < b) : ¬ (Int.gcd a b : Int) = 0 := by
  intro z
  have h1 : Int.gcd a b = 0 := by omega
  have := (Int.gcd_eq_zero_iff.mp h1).2
  omega
theorem litOk_orS {g : Nat → Int} {l s t : Nat} (h : litOk g l s) (h2 : litOk g l t) : litOk g l (s ||| t) := ⟨Nat.or_lt_two_pow h.1 h2.1, by rw [Nat.testBit_or, h.2, h2.2]; rfl⟩
set_option maxRecDepth 4000 in
theorem p_X12_parting {Γ : Gm} {d : Nat} {m : Mem} (l k what : Int) (hI : HI (m 212)) : Ci Γ (d + 6) MX12_parting [rv 211, iv l, iv k, iv what] m (fun r m' => r = q_parting (m 212) l k what ∧ Fr sQ m m') := by
  refine Ci.of moX12_parting rfl rfl (fun hA hM => ?_)
  show Em Γ (d + 6) MX12_parting _ 0 [rv 211, iv l, iv k, iv what, uv, uv] [] m
  refine Ev.aload_n (q := 1) dX12_parting_0 rfl rfl ?_
  refine Ev.iconst (q := 2) dX12_parting_1 ki_0 rfl ?_
  refine pI (q := 5) dX12_parting_2 gfX12_1 k211 rfl rfl ?_
  obtain ⟨M0, hM0⟩ : ∃ M0, M0 = up m 211 0 0 := ⟨_, rfl⟩
  rw [← hM0]
  have hF0 : Fr sQ m M0 := by rw [hM0]; exact (Fr.rf _ _).up rfl
  have g0 : M0 212 = m 212 := hF0.row 212 (fun _ => rfl)
  rw [← g0] at hI ⊢
  have hF12 := hI.1
  have hL3 := hI.2.1
  have hP8 := hI.2.2.1
  refine Ev.aload_n (q := 6) dX12_parting_5 rfl rfl ?_
  refine Ev.iload_n (q := 7) dX12_parting_6 rfl rfl ?_
  refine Ev.i2l (q := 8) dX12_parting_7 rfl ?_
  refine cV1i (q := 11) (d' := d + 5) dX12_parting_8 mlX12_230 moX12_isLift mvX12_isLift k211 rfl rfl rfl (Nat.le_refl _) rfl rfl rfl (p_X12_isLift l (by omega)) (fun r1 m1 e1 => ?_)
  obtain ⟨rfl, e1⟩ := e1
  obtain rfl := e1.symm
  refine Ev.if_eq (tgt := 38) (q := 14) dX12_parting_11 (by decide) rfl (fun h2 => ?_) (fun h2 => ?_)
  · skip
    have hLL : ¬ (0 ≤ l ∧ l < M0 212 2) := by split at h2 <;> omega
    refine Ev.ldc2 (q := 41) dX12_parting_38 klX12_368 klvX12_368 rfl ?_
    refine rJ dX12_parting_41 rfl ?_
    refine ⟨?_, hF0⟩
    unfold q_parting
    rw [if_neg (fun z => hLL z.1)]
  · skip
    have hLL : 0 ≤ l ∧ l < M0 212 2 := by split at h2 <;> omega
    obtain ⟨ln, rfl⟩ : ∃ ln : Nat, l = ln := ⟨l.toNat, by omega⟩
    have hliftln := hI.lift (l := ln) (by omega)
    have e66ln : M0 212 (66 + ln) = ((litV (M0 212) ln : Nat) : Int) := by unfold litV; have := hliftln.2.1.1; omega
    have hlokln := hI.litOk (l := ln) (by omega)
    refine Ev.aload_n (q := 15) dX12_parting_14 rfl rfl ?_
    refine Ev.iload_n (q := 16) dX12_parting_15 rfl rfl ?_
    refine Ev.i2l (q := 17) dX12_parting_16 rfl ?_
    refine cV1i (q := 20) (d' := d + 5) dX12_parting_17 mlX12_230 moX12_isLift mvX12_isLift k211 rfl rfl rfl (Nat.le_refl _) rfl rfl rfl (p_X12_isLift k (by omega)) (fun r3 m3 e3 => ?_)
    obtain ⟨rfl, e3⟩ := e3
    obtain rfl := e3.symm
    refine Ev.if_eq (tgt := 38) (q := 23) dX12_parting_20 (by decide) rfl (fun h4 => ?_) (fun h4 => ?_)
    · skip
      have hKK : ¬ (0 ≤ k ∧ k < M0 212 2) := by split at h4 <;> omega
      refine Ev.ldc2 (q := 41) dX12_parting_38 klX12_368 klvX12_368 rfl ?_
      refine rJ dX12_parting_41 rfl ?_
      refine ⟨?_, hF0⟩
      unfold q_parting
      rw [if_neg (fun z => hKK z.2.1)]
    · skip
      have hKK : 0 ≤ k ∧ k < M0 212 2 := by split at h4 <;> omega
      obtain ⟨kn, rfl⟩ : ∃ kn : Nat, k = kn := ⟨k.toNat, by omega⟩
      have hliftkn := hI.lift (l := kn) (by omega)
      have e66kn : M0 212 (66 + kn) = ((litV (M0 212) kn : Nat) : Int) := by unfold litV; have := hliftkn.2.1.1; omega
      have hlokkn := hI.litOk (l := kn) (by omega)
      refine Ev.iload_n (q := 24) dX12_parting_23 rfl rfl ?_
      refine Ev.iload_n (q := 25) dX12_parting_24 rfl rfl ?_
      refine Ev.icmp_eq (tgt := 38) (q := 28) dX12_parting_25 (by decide) rfl (fun h5 => ?_) (fun h5 => ?_)
      · skip
        have hne : ((ln : Int) = kn) := h5
        refine Ev.ldc2 (q := 41) dX12_parting_38 klX12_368 klvX12_368 rfl ?_
        refine rJ dX12_parting_41 rfl ?_
        refine ⟨?_, hF0⟩
        unfold q_parting
        rw [if_neg (fun z => z.2.2.1 hne)]
      · skip
        have hne : ¬ ((ln : Int) = kn) := h5
        refine Ev.iload_n (q := 29) dX12_parting_28 rfl rfl ?_
        refine Ev.i2l (q := 30) dX12_parting_29 rfl ?_
        refine Ev.lconst (q := 31) dX12_parting_30 kj_0 rfl ?_
        refine Ev.lconst (q := 32) dX12_parting_31 kj_1 rfl ?_
        refine cS3i (q := 35) (d' := d + 5) dX12_parting_32 mlX12_118 moX12_within msX12_within rfl rfl (Nat.le_refl _) rfl rfl rfl (p_X12_within _ _ _) (fun r6 m6 e6 => ?_)
        obtain ⟨rfl, e6⟩ := e6
        obtain rfl := e6.symm
        refine Ev.if_ne (tgt := 42) (q := 38) dX12_parting_35 (by decide) rfl (fun h7 => ?_) (fun h7 => ?_)
        · skip
          have hWW : 0 ≤ what ∧ what ≤ 1 := by split at h7 <;> omega
          refine Ev.aload_n (q := 43) dX12_parting_42 rfl rfl ?_
          refine gR (q := 46) dX12_parting_43 gfX12_13 k211 r211_1 rfl rfl ?_
          refine Ev.bipush (q := 48) dX12_parting_46 kb_60 rfl ?_
          refine Ev.iload_n (q := 49) dX12_parting_48 rfl rfl ?_
          refine Ev.iadd (q := 50) dX12_parting_49 rfl ?_
          refine aI (q := 51) (k := 60 + ln) dX12_parting_50 k212 (by first | rfl | omega | (simp (disch := omega) only [w32_of]; omega)) (by omega) rfl ?_
          refine Ev.aload_n (q := 52) dX12_parting_51 rfl rfl ?_
          refine gR (q := 55) dX12_parting_52 gfX12_13 k211 r211_1 rfl rfl ?_
          refine Ev.bipush (q := 57) dX12_parting_55 kb_60 rfl ?_
          refine Ev.iload_n (q := 58) dX12_parting_57 rfl rfl ?_
          refine Ev.iadd (q := 59) dX12_parting_58 rfl ?_
          refine aI (q := 60) (k := 60 + kn) dX12_parting_59 k212 (by first | rfl | omega | (simp (disch := omega) only [w32_of]; omega)) (by omega) rfl ?_
          refine Ev.icmp_eq (tgt := 67) (q := 63) dX12_parting_60 (by decide) rfl (fun h8 => ?_) (fun h8 => ?_)
          · skip
            have he : M0 212 (60 + ln) = M0 212 (60 + kn) := h8
            refine Ev.aload_n (q := 68) dX12_parting_67 rfl rfl ?_
            refine Ev.iload_n (q := 69) dX12_parting_68 rfl rfl ?_
            refine Ev.iload_n (q := 70) dX12_parting_69 rfl rfl ?_
            refine cV2j (q := 73) (d' := d + 5) dX12_parting_70 mlX12_408 moX12_partsBy mvX12_partsBy k211 rfl rfl rfl (Nat.le_refl _) rfl rfl rfl (p_X12_partsBy ln kn hI (by omega) (by omega) he) (fun r9 m9 e9 => ?_)
            obtain ⟨rfl, e28, hfr⟩ := e9
            rw [prtV_fs hI ln kn _ 0] at e28 ⊢
            have hF1 := hF0.tr (hfr.mono (fun a k q => sQ_Pt q))
            refine lstore_4 (q := 75) dX12_parting_73 rfl rfl rfl ?_
            refine Ev.iload_n (q := 76) dX12_parting_75 rfl rfl ?_
            refine Ev.if_ne (tgt := 84) (q := 79) dX12_parting_76 (by decide) rfl (fun h10 => ?_) (fun h10 => ?_)
            · skip
              refine Ev.aload_n (q := 85) dX12_parting_84 rfl rfl ?_
              refine gI (q := 88) dX12_parting_85 gfX12_403 k211 rfl rfl ?_
              refine Ev.i2l (q := 89) dX12_parting_88 rfl ?_
              refine rJ dX12_parting_89 rfl ?_
              refine ⟨?_, hF1⟩
              unfold q_parting
              rw [if_pos ⟨hLL, hKK, hne, hWW⟩]
              simp only [Int.toNat_natCast]
              rw [if_pos he, if_neg (by omega), e28]
            · skip
              refine Ev.lload (q := 81) dX12_parting_79 rfl rfl ?_
              refine Ev.goto (q := 89) dX12_parting_81 (by decide) ?_
              refine rJ dX12_parting_89 rfl ?_
              refine ⟨?_, hF1⟩
              unfold q_parting
              rw [if_pos ⟨hLL, hKK, hne, hWW⟩]
              simp only [Int.toNat_natCast]
              rw [if_pos he, if_pos (by omega)]
          · skip
            refine Ev.ldc2 (q := 66) dX12_parting_63 klX12_406 klvX12_406 rfl ?_
            refine rJ dX12_parting_66 rfl ?_
            refine ⟨?_, hF0⟩
            unfold q_parting
            rw [if_pos ⟨hLL, hKK, hne, hWW⟩]
            simp only [Int.toNat_natCast]
            rw [if_neg (by assumption)]
        · skip
          have hWW : ¬ (0 ≤ what ∧ what ≤ 1) := by split at h7 <;> omega
          refine Ev.ldc2 (q := 41) dX12_parting_38 klX12_368 klvX12_368 rfl ?_
          refine rJ dX12_parting_41 rfl ?_
          refine ⟨?_, hF0⟩
          unfold q_parting
          rw [if_neg (fun z => hWW z.2.2.2)]
set_option maxRecDepth 4000 in
theorem l_boy {Γ : Gm} {d : Nat} {m M0 : Mem} {Po : Int → Mem → Prop} (l n fr : Nat) (x3 now : Int) (R : Int × Int) (hI : HI (M0 212)) (hl : (l : Int) < M0 212 2) (hfr : litOk (M0 212) l fr) : ∀ (k s : Nat) (a b : Int) (M : Mem), s + k = fr + 1 → Fr sQ m M → M 212 = M0 212 →
    (∀ (A9 B9 : Int) (M9 : Mem), Fr sQ m M9 → (A9, B9) = byN (sumV (M0 212) l) (litV (M0 212) l) fr n now k s a b → Em Γ (d + 28) MX12_boy Po 182 [rv 211, iv l, iv n, iv x3, iv fr, jv now, uv, jv A9, uv, jv B9, uv, iv ((fr + 1 : Nat) : Int), uv] [] M9) → 0 ≤ b → b ≤ s → Em Γ (d + 28) MX12_boy Po 116 [rv 211, iv l, iv n, iv x3, iv fr, jv now, uv, jv a, uv, jv b, uv, iv s, uv] [] M := by
  have hlok := hI.litOk hl
  have h12 := hlok.lt hI
  have hfr4 := hfr.lt hI
  have hlift := hI.lift hl
  have hL3 := hI.2.1
  have e66 : M0 212 (66 + l) = ((litV (M0 212) l : Nat) : Int) := by unfold litV; have := hlift.2.1.1; omega
  intro k
  induction k with
  | zero =>
    intro s a b M hs hFr g12 kont hb0 hbs
    obtain rfl : s = fr + 1 := by omega
    refine Ev.iload (q := 118) dX12_boy_116 rfl rfl ?_
    refine Ev.iload (q := 120) dX12_boy_118 rfl rfl ?_
    refine Ev.icmp_gt (tgt := 182) (q := 123) dX12_boy_120 (by decide) rfl (fun h1 => ?_) (fun h1 => ?_)
    · skip
      exact kont _ _ _ hFr rfl
    · skip
      omega
  | succ k ih =>
    intro s a b M hs hFr g12 kont hb0 hbs
    refine Ev.iload (q := 118) dX12_boy_116 rfl rfl ?_
    refine Ev.iload (q := 120) dX12_boy_118 rfl rfl ?_
    refine Ev.icmp_gt (tgt := 182) (q := 123) dX12_boy_120 (by decide) rfl (fun h1 => ?_) (fun h1 => ?_)
    · skip
      omega
    · skip
      refine Ev.iload (q := 125) dX12_boy_123 rfl rfl ?_
      refine Ev.iload (q := 127) dX12_boy_125 rfl rfl ?_
      refine Ev.iconst (q := 128) dX12_boy_127 ki_m1 rfl ?_
      refine Ev.ixor (q := 129) dX12_boy_128 rfl ?_
      refine Ev.iand (q := 130) dX12_boy_129 rfl ?_
      rw [iandn_n (by omega)]
      refine Ev.if_ne (tgt := 176) (q := 133) dX12_boy_130 (by decide) rfl (fun h2 => ?_) (fun h2 => ?_)
      · skip
        have hd : ¬ dif s fr = 0 := by omega
        refine iinc_11 (q := 179) dX12_boy_176 rfl rfl rfl ?_
        refine Ev.goto (q := 116) dX12_boy_179 (by decide) ?_
        rw [w32_of (by omega) (by omega)]
        refine ih (s + 1) a b _ (by omega) hFr g12 (fun A9 B9 M9 hM9 hab => kont A9 B9 M9 hM9 (hab.trans ?_)) (by omega) (by omega)
        conv => rhs; unfold byN; rw [if_pos (Or.inl hd)]
      · skip
        have hd : dif s fr = 0 := by omega
        refine Ev.iload (q := 135) dX12_boy_133 rfl rfl ?_
        refine cS1i (q := 138) (d' := d + 27) dX12_boy_135 mlX12_224 moX12_bitsOf msX12_bitsOf rfl rfl (Nat.le_refl _) rfl rfl rfl (p_X12_bitsOf s (by omega)) (fun r3 m3 e3 => ?_)
        obtain ⟨rfl, e3⟩ := e3
        obtain rfl := e3.symm
        refine Ev.iload_n (q := 139) dX12_boy_138 rfl rfl ?_
        refine Ev.icmp_eq (tgt := 145) (q := 142) dX12_boy_139 (by decide) rfl (fun h4 => ?_) (fun h4 => ?_)
        · skip
          have hp : pop s = n := by omega
          refine Ev.lload (q := 147) dX12_boy_145 rfl rfl ?_
          refine Ev.aload_n (q := 148) dX12_boy_147 rfl rfl ?_
          refine Ev.iload_n (q := 149) dX12_boy_148 rfl rfl ?_
          refine Ev.aload_n (q := 150) dX12_boy_149 rfl rfl ?_
          refine gR (q := 153) dX12_boy_150 gfX12_13 k211 r211_1 rfl rfl ?_
          refine Ev.bipush (q := 155) dX12_boy_153 kb_66 rfl ?_
          refine Ev.iload_n (q := 156) dX12_boy_155 rfl rfl ?_
          refine Ev.iadd (q := 157) dX12_boy_156 rfl ?_
          refine aI (q := 158) (k := 66 + l) dX12_boy_157 k212 (by first | rfl | omega | (simp (disch := omega) only [w32_of]; omega)) (by omega) rfl ?_
          rw [g12, e66]
          refine Ev.iload (q := 160) dX12_boy_158 rfl rfl ?_
          refine Ev.ior (q := 161) dX12_boy_160 rfl ?_
          rw [ior_n (k := 12) h12 (by omega) (by decide)]
          refine cV2j (q := 164) (d' := d + 27) dX12_boy_161 mlX12_364 moX12_sumBy mvX12_sumBy k211 rfl rfl rfl (Nat.le_refl _) rfl rfl rfl (p_X12_sumBy l (litV (M0 212) l ||| s) (by rw [g12]; exact hI) (by rw [g12]; exact hl) (by rw [g12]; exact litOk_orS hlok (litOk_sub hfr hd (by omega)))) (fun r5 m5 e5 => ?_)
          obtain ⟨rfl, hfr9⟩ := e5
          rw [g12]
          have hF1 := hFr.tr (hfr9.mono (fun a k q => sQ_Be q))
          have g1 : m5 212 = M0 212 := by rw [hfr9.row 212 (fun _ => rfl)]; exact g12
          generalize m5 = M1 at *
          refine Ev.lload (q := 166) dX12_boy_164 rfl rfl ?_
          refine Ev.lsub (q := 167) dX12_boy_166 rfl ?_
          refine Ev.ladd (q := 168) dX12_boy_167 rfl ?_
          refine lstore_7 (q := 170) dX12_boy_168 rfl rfl rfl ?_
          refine Ev.lload (q := 172) dX12_boy_170 rfl rfl ?_
          refine Ev.lconst (q := 173) dX12_boy_172 kj_1 rfl ?_
          refine Ev.ladd (q := 174) dX12_boy_173 rfl ?_
          rw [w64_of (z := b + 1) (by omega) (by omega)]
          refine lstore_9 (q := 176) dX12_boy_174 rfl rfl rfl ?_
          refine iinc_11 (q := 179) dX12_boy_176 rfl rfl rfl ?_
          refine Ev.goto (q := 116) dX12_boy_179 (by decide) ?_
          rw [w32_of (by omega) (by omega)]
          refine ih (s + 1) (w64 (a + w64 (sumV (M0 212) l (litV (M0 212) l ||| s) - now))) (b + 1) _ (by omega) hF1 g1 (fun A9 B9 M9 hM9 hab => kont A9 B9 M9 hM9 (hab.trans ?_)) (by omega) (by omega)
          conv => rhs; unfold byN; rw [if_neg (fun z => z.elim (fun q => q hd) (fun q => q hp))]
        · skip
          have hp : ¬ pop s = n := by omega
          refine Ev.goto (q := 176) dX12_boy_142 (by decide) ?_
          refine iinc_11 (q := 179) dX12_boy_176 rfl rfl rfl ?_
          refine Ev.goto (q := 116) dX12_boy_179 (by decide) ?_
          rw [w32_of (by omega) (by omega)]
          refine ih (s + 1) a b _ (by omega) hFr g12 (fun A9 B9 M9 hM9 hab => kont A9 B9 M9 hM9 (hab.trans ?_)) (by omega) (by omega)
          conv => rhs; unfold byN; rw [if_pos (Or.inr hp)]
set_option maxRecDepth 4000 in
theorem p_X12_boy {Γ : Gm} {d : Nat} {m : Mem} (l n what : Int) (hI : HI (m 212)) : Ci Γ (d + 28) MX12_boy [rv 211, iv l, iv n, iv what] m (fun r m' => r = q_boy (m 212) l n what ∧ Fr sQ m m') := by
  refine Ci.of moX12_boy rfl rfl (fun hA hM => ?_)
  show Em Γ (d + 28) MX12_boy _ 0 [rv 211, iv l, iv n, iv what, uv, uv, uv, uv, uv, uv, uv, uv, uv] [] m
  refine Ev.aload_n (q := 1) dX12_boy_0 rfl rfl ?_
  refine Ev.iconst (q := 2) dX12_boy_1 ki_0 rfl ?_
  refine pI (q := 5) dX12_boy_2 gfX12_1 k211 rfl rfl ?_
  obtain ⟨M0, hM0⟩ : ∃ M0, M0 = up m 211 0 0 := ⟨_, rfl⟩
  rw [← hM0]
  have hF0 : Fr sQ m M0 := by rw [hM0]; exact (Fr.rf _ _).up rfl
  have g0 : M0 212 = m 212 := hF0.row 212 (fun _ => rfl)
  rw [← g0] at hI ⊢
  have hF12 := hI.1
  have hL3 := hI.2.1
  have hP8 := hI.2.2.1
  refine Ev.aload_n (q := 6) dX12_boy_5 rfl rfl ?_
  refine Ev.iload_n (q := 7) dX12_boy_6 rfl rfl ?_
  refine Ev.i2l (q := 8) dX12_boy_7 rfl ?_
  refine cV1i (q := 11) (d' := d + 27) dX12_boy_8 mlX12_230 moX12_isLift mvX12_isLift k211 rfl rfl rfl (Nat.le_refl _) rfl rfl rfl (p_X12_isLift l (by omega)) (fun r1 m1 e1 => ?_)
  obtain ⟨rfl, e1⟩ := e1
  obtain rfl := e1.symm
  refine Ev.if_eq (tgt := 36) (q := 14) dX12_boy_11 (by decide) rfl (fun h2 => ?_) (fun h2 => ?_)
  · skip
    have hLL : ¬ (0 ≤ l ∧ l < M0 212 2) := by split at h2 <;> omega
    refine Ev.ldc2 (q := 39) dX12_boy_36 klX12_386 klvX12_386 rfl ?_
    refine rJ dX12_boy_39 rfl ?_
    refine ⟨?_, hF0⟩
    unfold q_boy
    rw [if_neg (fun z => hLL z.1)]
  · skip
    have hLL : 0 ≤ l ∧ l < M0 212 2 := by split at h2 <;> omega
    obtain ⟨ln, rfl⟩ : ∃ ln : Nat, l = ln := ⟨l.toNat, by omega⟩
    have hliftln := hI.lift (l := ln) (by omega)
    have e66ln : M0 212 (66 + ln) = ((litV (M0 212) ln : Nat) : Int) := by unfold litV; have := hliftln.2.1.1; omega
    have hlokln := hI.litOk (l := ln) (by omega)
    refine Ev.iload_n (q := 15) dX12_boy_14 rfl rfl ?_
    refine Ev.i2l (q := 16) dX12_boy_15 rfl ?_
    refine Ev.lconst (q := 17) dX12_boy_16 kj_0 rfl ?_
    refine Ev.lconst (q := 18) dX12_boy_17 kj_1 rfl ?_
    refine cS3i (q := 21) (d' := d + 27) dX12_boy_18 mlX12_118 moX12_within msX12_within rfl rfl (Nat.le_refl _) rfl rfl rfl (p_X12_within _ _ _) (fun r3 m3 e3 => ?_)
    obtain ⟨rfl, e3⟩ := e3
    obtain rfl := e3.symm
    refine Ev.if_eq (tgt := 36) (q := 24) dX12_boy_21 (by decide) rfl (fun h4 => ?_) (fun h4 => ?_)
    · skip
      have hWW : ¬ (0 ≤ what ∧ what ≤ 1) := by split at h4 <;> omega
      refine Ev.ldc2 (q := 39) dX12_boy_36 klX12_386 klvX12_386 rfl ?_
      refine rJ dX12_boy_39 rfl ?_
      refine ⟨?_, hF0⟩
      unfold q_boy
      rw [if_neg (fun z => hWW z.2.1)]
    · skip
      have hWW : 0 ≤ what ∧ what ≤ 1 := by split at h4 <;> omega
      refine Ev.iload_n (q := 25) dX12_boy_24 rfl rfl ?_
      refine Ev.i2l (q := 26) dX12_boy_25 rfl ?_
      refine Ev.lconst (q := 27) dX12_boy_26 kj_0 rfl ?_
      refine Ev.ldc2 (q := 30) dX12_boy_27 klX12_249 klvX12_249 rfl ?_
      refine cS3i (q := 33) (d' := d + 27) dX12_boy_30 mlX12_118 moX12_within msX12_within rfl rfl (Nat.le_refl _) rfl rfl rfl (p_X12_within _ _ _) (fun r5 m5 e5 => ?_)
      obtain ⟨rfl, e5⟩ := e5
      obtain rfl := e5.symm
      refine Ev.if_ne (tgt := 40) (q := 36) dX12_boy_33 (by decide) rfl (fun h6 => ?_) (fun h6 => ?_)
      · skip
        have hNN : 0 ≤ n ∧ n ≤ 11 := by split at h6 <;> omega
        obtain ⟨nn, rfl⟩ : ∃ nn : Nat, n = nn := ⟨n.toNat, by omega⟩
        refine Ev.iconst (q := 41) dX12_boy_40 ki_1 rfl ?_
        refine Ev.aload_n (q := 42) dX12_boy_41 rfl rfl ?_
        refine gR (q := 45) dX12_boy_42 gfX12_13 k211 r211_1 rfl rfl ?_
        refine Ev.iconst (q := 46) dX12_boy_45 ki_1 rfl ?_
        refine aI (q := 47) (k := 1) dX12_boy_46 k212 (by rfl) (by decide) rfl ?_
        have h2F : (2 : Nat) ^ (M0 212 1).toNat ≤ 4096 := by have : 2 ^ (M0 212 1).toNat ≤ 2 ^ 12 := Nat.pow_le_pow_right (by decide) (by omega); omega
        have hpF := Nat.two_pow_pos (M0 212 1).toNat
        rw [show M0 212 1 = ((M0 212 1).toNat : Int) by omega]
        refine Ev.ishl (q := 48) dX12_boy_47 rfl ?_
        rw [ishl_1 _ (by omega)]
        refine Ev.iconst (q := 49) dX12_boy_48 ki_1 rfl ?_
        refine Ev.isub (q := 50) dX12_boy_49 rfl ?_
        rw [w32_of (by omega) (by omega), show (((2 ^ (M0 212 1).toNat : Nat) : Int) - 1) = ((2 ^ (M0 212 1).toNat - 1 : Nat) : Int) by omega]
        refine Ev.aload_n (q := 51) dX12_boy_50 rfl rfl ?_
        refine gR (q := 54) dX12_boy_51 gfX12_13 k211 r211_1 rfl rfl ?_
        refine Ev.bipush (q := 56) dX12_boy_54 kb_66 rfl ?_
        refine Ev.iload_n (q := 57) dX12_boy_56 rfl rfl ?_
        refine Ev.iadd (q := 58) dX12_boy_57 rfl ?_
        refine aI (q := 59) (k := 66 + ln) dX12_boy_58 k212 (by first | rfl | omega | (simp (disch := omega) only [w32_of]; omega)) (by omega) rfl ?_
        rw [e66ln]
        refine Ev.iconst (q := 60) dX12_boy_59 ki_m1 rfl ?_
        refine Ev.ixor (q := 61) dX12_boy_60 rfl ?_
        refine Ev.iand (q := 62) dX12_boy_61 rfl ?_
        rw [iandn_n (by omega)]
        refine Ev.iconst (q := 63) dX12_boy_62 ki_1 rfl ?_
        refine Ev.aload_n (q := 64) dX12_boy_63 rfl rfl ?_
        refine gR (q := 67) dX12_boy_64 gfX12_13 k211 r211_1 rfl rfl ?_
        refine Ev.bipush (q := 69) dX12_boy_67 kb_60 rfl ?_
        refine Ev.iload_n (q := 70) dX12_boy_69 rfl rfl ?_
        refine Ev.iadd (q := 71) dX12_boy_70 rfl ?_
        refine aI (q := 72) (k := 60 + ln) dX12_boy_71 k212 (by first | rfl | omega | (simp (disch := omega) only [w32_of]; omega)) (by omega) rfl ?_
        rw [show M0 212 (60 + ln) = ((M0 212 (60 + ln)).toNat : Int) by have := hliftln.1; omega]
        refine Ev.ishl (q := 73) dX12_boy_72 rfl ?_
        rw [ishl_1 _ (by have := hliftln.1; omega)]
        refine Ev.iconst (q := 74) dX12_boy_73 ki_m1 rfl ?_
        refine Ev.ixor (q := 75) dX12_boy_74 rfl ?_
        refine Ev.iand (q := 76) dX12_boy_75 rfl ?_
        rw [iandn_n (by have := dif_le (2 ^ (M0 212 1).toNat - 1) (litV (M0 212) ln); omega), show dif (dif (2 ^ (M0 212 1).toNat - 1) (litV (M0 212) ln)) (2 ^ (M0 212 (60 + ln)).toNat) = freS (M0 212) ln from rfl]
        have hfS := freS_ok hI (l := ln) (by omega)
        refine istore_4 (q := 78) dX12_boy_76 rfl rfl rfl ?_
        refine Ev.iload_n (q := 79) dX12_boy_78 rfl rfl ?_
        refine Ev.iload (q := 81) dX12_boy_79 rfl rfl ?_
        refine cS1i (q := 84) (d' := d + 27) dX12_boy_81 mlX12_224 moX12_bitsOf msX12_bitsOf rfl rfl (Nat.le_refl _) rfl rfl rfl (p_X12_bitsOf (freS (M0 212) ln) (lt4096 hfS.1 (by omega))) (fun r7 m7 e7 => ?_)
        obtain ⟨rfl, e7⟩ := e7
        obtain rfl := e7.symm
        refine Ev.icmp_le (tgt := 91) (q := 87) dX12_boy_84 (by decide) rfl (fun h8 => ?_) (fun h8 => ?_)
        · skip
          refine Ev.aload_n (q := 92) dX12_boy_91 rfl rfl ?_
          refine Ev.iload_n (q := 93) dX12_boy_92 rfl rfl ?_
          refine Ev.aload_n (q := 94) dX12_boy_93 rfl rfl ?_
          refine gR (q := 97) dX12_boy_94 gfX12_13 k211 r211_1 rfl rfl ?_
          refine Ev.bipush (q := 99) dX12_boy_97 kb_66 rfl ?_
          refine Ev.iload_n (q := 100) dX12_boy_99 rfl rfl ?_
          refine Ev.iadd (q := 101) dX12_boy_100 rfl ?_
          refine aI (q := 102) (k := 66 + ln) dX12_boy_101 k212 (by first | rfl | omega | (simp (disch := omega) only [w32_of]; omega)) (by omega) rfl ?_
          rw [e66ln]
          refine cV2j (q := 105) (d' := d + 27) dX12_boy_102 mlX12_364 moX12_sumBy mvX12_sumBy k211 rfl rfl rfl (Nat.le_refl _) rfl rfl rfl (p_X12_sumBy ln (litV (M0 212) ln) hI (by omega) hlokln) (fun r9 m9 e9 => ?_)
          obtain ⟨rfl, hfr⟩ := e9
          have hF1 := hF0.tr (hfr.mono (fun a k q => sQ_Be q))
          have g1 : m9 212 = M0 212 := hfr.row 212 (fun _ => rfl)
          generalize m9 = M1 at *
          refine lstore_5 (q := 107) dX12_boy_105 rfl rfl rfl ?_
          refine Ev.lconst (q := 108) dX12_boy_107 kj_0 rfl ?_
          refine lstore_7 (q := 110) dX12_boy_108 rfl rfl rfl ?_
          refine Ev.lconst (q := 111) dX12_boy_110 kj_0 rfl ?_
          refine lstore_9 (q := 113) dX12_boy_111 rfl rfl rfl ?_
          refine Ev.iconst (q := 114) dX12_boy_113 ki_0 rfl ?_
          refine istore_11 (q := 116) dX12_boy_114 rfl rfl rfl ?_
          have hc : (0 ≤ (ln : Int) ∧ (ln : Int) < M0 212 2) ∧ (0 ≤ what ∧ what ≤ 1) ∧ (0 ≤ (nn : Int) ∧ (nn : Int) ≤ 11) ∧ (nn : Int) ≤ (pop (freS (M0 212) ((ln : Nat) : Int).toNat) : Int) := ⟨hLL, hWW, hNN, by rw [Int.toNat_natCast]; omega⟩
          have hbk := byV_ok hI (l := ln) (n := nn) (by omega) (by omega)
          refine l_boy (Γ := Γ) (d := d) (m := m) (M0 := M0) ln nn (freS (M0 212) ln) what (sumV (M0 212) ln (litV (M0 212) ln)) (0, 0) hI (by omega) hfS (freS (M0 212) ln + 1) 0 0 0 M1 (by omega) hF1 g1 (fun A9 B9 M9 hFr9 hab => ?_) (by omega) (by omega)
          have hab9 : (A9, B9) = byV (M0 212) ln nn := hab
          rw [← hab9] at hbk
          dsimp only at hbk
          have hB0 := hbk.2.1
          refine Ev.lload (q := 184) dX12_boy_182 rfl rfl ?_
          refine Ev.lload (q := 186) dX12_boy_184 rfl rfl ?_
          refine cS2j (q := 189) (d' := d + 27) dX12_boy_186 mlX12_391 moX12_common msX12_common rfl rfl (Nat.le_refl _) rfl rfl rfl (p_X12_common A9 B9 (by omega) (by omega)) (fun r1 m1 e1 => ?_)
          obtain ⟨rfl, e1⟩ := e1
          obtain rfl := e1.symm
          refine lstore_11 (q := 191) dX12_boy_189 rfl rfl rfl ?_
          refine Ev.iload_n (q := 192) dX12_boy_191 rfl rfl ?_
          refine Ev.if_ne (tgt := 203) (q := 195) dX12_boy_192 (by decide) rfl (fun h2 => ?_) (fun h2 => ?_)
          · skip
            refine Ev.lload (q := 205) dX12_boy_203 rfl rfl ?_
            refine Ev.lload (q := 207) dX12_boy_205 rfl rfl ?_
            refine Ev.ldiv (q := 208) dX12_boy_207 (by exact gcd_pos hB0) rfl ?_
            refine rJ dX12_boy_208 rfl ?_
            refine ⟨?_, hFr9⟩
            unfold q_boy
            rw [if_pos hc]
            simp only [Int.toNat_natCast]
            rw [if_neg (by omega), ← hab9]
          · skip
            refine Ev.lload (q := 197) dX12_boy_195 rfl rfl ?_
            refine Ev.lload (q := 199) dX12_boy_197 rfl rfl ?_
            refine Ev.ldiv (q := 200) dX12_boy_199 (by exact gcd_pos hB0) rfl ?_
            refine Ev.goto (q := 208) dX12_boy_200 (by decide) ?_
            refine rJ dX12_boy_208 rfl ?_
            refine ⟨?_, hFr9⟩
            unfold q_boy
            rw [if_pos hc]
            simp only [Int.toNat_natCast]
            rw [if_pos (by omega), ← hab9]
        · skip
          refine Ev.ldc2 (q := 90) dX12_boy_87 klX12_386 klvX12_386 rfl ?_
          refine rJ dX12_boy_90 rfl ?_
          refine ⟨?_, hF0⟩
          unfold q_boy
          rw [if_neg (fun z => by have := z.2.2.2; simp only [Int.toNat_natCast] at this; omega)]
      · skip
        have hNN : ¬ (0 ≤ n ∧ n ≤ 11) := by split at h6 <;> omega
        refine Ev.ldc2 (q := 39) dX12_boy_36 klX12_386 klvX12_386 rfl ?_
        refine rJ dX12_boy_39 rfl ?_
        refine ⟨?_, hF0⟩
        unfold q_boy
        rw [if_neg (fun z => hNN z.2.2.1)]
