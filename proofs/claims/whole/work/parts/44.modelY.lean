/-! ===== the reference: answers, further ===== -/
def wkQ (g : Nat → Int) (l p : Nat) : Bool := decide (g (88 + p) = l ∧ ¬ (bestN g p).2 = g (28 + p))
def q_walkers (g : Nat → Int) (l : Int) : Int := if 0 ≤ l ∧ l < g 2 then (setN (wkQ g l.toNat) (g 3).toNat : Int) else -2
def chN (val : Nat → Int) : Nat → Nat → Int → Int → Int
  | 0, _, b, _ => b
  | n + 1, l, b, s => if val l < s then chN val n (l + 1) l (val l) else chN val n (l + 1) b s
def q_choice (g : Nat → Int) (p : Int) : Int := if 0 ≤ p ∧ p < g 3 then (if g (88 + p.toNat) = -1 then chN (waitV g p.toNat) (g 2).toNat 0 (-1) (bestN g p.toNat).1 else -5) else -2
def q_worst (g : Nat → Int) (l : Int) : Int := if 0 ≤ l ∧ l < g 2 then chgV g l.toNat true else -2
def q_bestL (g : Nat → Int) (l : Int) : Int := if 0 ≤ l ∧ l < g 2 then chgV g l.toNat false else -2
def q_away (g : Nat → Int) (f : Int) : Int := if 0 ≤ f ∧ f < g 1 then awyV g f.toNat else -2
def rsN (g : Nat → Int) : Nat → Nat → Nat → Nat
  | 0, _, b => b
  | n + 1, f, b => if awyV g f < awyV g b then rsN g n (f + 1) f else rsN g n (f + 1) b
def q_rest (g : Nat → Int) : Int := (rsN g ((g 1).toNat - 1) 1 0 : Int)
def nrN (g : Nat → Int) (f : Nat) : Nat → Nat → Option Nat → Option Nat
  | 0, _, b => b
  | n + 1, l, b => match b with
    | none => nrN g f n (l + 1) (some l)
    | some c => if dst (g (60 + l)).toNat f < dst (g (60 + c)).toNat f then nrN g f n (l + 1) (some l) else nrN g f n (l + 1) (some c)
def q_nearest (g : Nat → Int) (f : Int) : Int := if 0 ≤ f ∧ f < g 1 then optI (nrN g f.toNat (g 2).toNat 0 none) else -2
def q_least (g : Nat → Int) (l what : Int) : Int := if (0 ≤ l ∧ l < g 2) ∧ (0 ≤ what ∧ what ≤ 1) then (if what = 0 then sumV g l.toNat (keptV g l.toNat false) else (keptV g l.toNat false : Int)) else -2
def q_fairest (g : Nat → Int) (l what : Int) : Int := if (0 ≤ l ∧ l < g 2) ∧ (0 ≤ what ∧ what ≤ 1) then (if what = 0 then latV g l.toNat (keptV g l.toNat true) else (keptV g l.toNat true : Int)) else -2
def q_costs (g : Nat → Int) (l f : Int) : Int := if (0 ≤ l ∧ l < g 2) ∧ (0 ≤ f ∧ f < g 1) ∧ (litV g l.toNat).testBit f.toNat = true then w64 (sumV g l.toNat (litV g l.toNat) - sumV g l.toNat (dif (litV g l.toNat) (2 ^ f.toNat))) else -2000000000
theorem kep_sub {val : Nat → Int} {w : Nat} : ∀ (n s b : Nat) (ls : Int), dif b w = 0 → b ≤ w → s + n ≤ w + 1 → dif (kep val w n s b ls) w = 0 ∧ kep val w n s b ls ≤ w := by
  intro n
  induction n with
  | zero => intro s b ls h1 h2 _; exact ⟨h1, h2⟩
  | succ n ih =>
    intro s b ls h1 h2 h3
    unfold kep
    split
    · exact ih _ _ _ h1 h2 (by omega)
    · split
      · exact ih _ _ _ h1 h2 (by omega)
      · rename_i hd _
        exact ih _ _ _ (Classical.byContradiction hd) (by omega) (by omega)
theorem keptV_ok {g : Nat → Int} (hI : HI g) {l : Nat} (hl : (l : Int) < g 2) (fair : Bool) : litOk g l (keptV g l fair) := by
  have h := kep_sub (val := fun s => valV g l s fair) (w := litV g l) (litV g l + 1) 0 0 1000000000000000 (by unfold dif; rw [Nat.zero_and]; rfl) (by omega) (by omega)
  exact litOk_sub (hI.litOk hl) h.1 h.2
set_option maxRecDepth 4000 in
theorem p_X12_worstLight {Γ : Gm} {d : Nat} {m : Mem} (l : Int) (hI : HI (m 212)) : Ci Γ (d + 7) MX12_worstLight [rv 211, iv l] m (fun r m' => r = q_worst (m 212) l ∧ Fr sQ m m') := by
  refine Ci.of moX12_worstLight rfl rfl (fun hA hM => ?_)
  show Em Γ (d + 7) MX12_worstLight _ 0 [rv 211, iv l] [] m
  refine Ev.aload_n (q := 1) dX12_worstLight_0 rfl rfl ?_
  refine Ev.iconst (q := 2) dX12_worstLight_1 ki_0 rfl ?_
  refine pI (q := 5) dX12_worstLight_2 gfX12_1 k211 rfl rfl ?_
  obtain ⟨M0, hM0⟩ : ∃ M0, M0 = up m 211 0 0 := ⟨_, rfl⟩
  rw [← hM0]
  have hF0 : Fr sQ m M0 := by rw [hM0]; exact (Fr.rf _ _).up rfl
  have g0 : M0 212 = m 212 := hF0.row 212 (fun _ => rfl)
  rw [← g0] at hI ⊢
  have hF12 := hI.1
  have hL3 := hI.2.1
  have hP8 := hI.2.2.1
  refine Ev.aload_n (q := 6) dX12_worstLight_5 rfl rfl ?_
  refine Ev.iload_n (q := 7) dX12_worstLight_6 rfl rfl ?_
  refine Ev.i2l (q := 8) dX12_worstLight_7 rfl ?_
  refine cV1i (q := 11) (d' := d + 6) dX12_worstLight_8 mlX12_230 moX12_isLift mvX12_isLift k211 rfl rfl rfl (Nat.le_refl _) rfl rfl rfl (p_X12_isLift l (by omega)) (fun r1 m1 e1 => ?_)
  obtain ⟨rfl, e1⟩ := e1
  obtain rfl := e1.symm
  refine Ev.if_eq (tgt := 23) (q := 14) dX12_worstLight_11 (by decide) rfl (fun h2 => ?_) (fun h2 => ?_)
  · skip
    have hLL : ¬ (0 ≤ l ∧ l < M0 212 2) := by split at h2 <;> omega
    refine Ev.bipush (q := 25) dX12_worstLight_23 kb_m2 rfl ?_
    refine rI dX12_worstLight_25 rfl ?_
    refine ⟨?_, hF0⟩
    unfold q_worst
    rw [if_neg hLL]
  · skip
    have hLL : 0 ≤ l ∧ l < M0 212 2 := by split at h2 <;> omega
    obtain ⟨ln, rfl⟩ : ∃ ln : Nat, l = ln := ⟨l.toNat, by omega⟩
    have hliftln := hI.lift (l := ln) (by omega)
    have e66ln : M0 212 (66 + ln) = ((litV (M0 212) ln : Nat) : Int) := by unfold litV; have := hliftln.2.1.1; omega
    have hlokln := hI.litOk (l := ln) (by omega)
    refine Ev.aload_n (q := 15) dX12_worstLight_14 rfl rfl ?_
    refine Ev.iload_n (q := 16) dX12_worstLight_15 rfl rfl ?_
    refine Ev.iconst (q := 17) dX12_worstLight_16 ki_1 rfl ?_
    refine cV2i (q := 20) (d' := d + 6) dX12_worstLight_17 mlX12_388 moX12_changeBy mvX12_changeBy k211 rfl rfl rfl (Nat.le_refl _) rfl rfl rfl (p_X12_changeBy_true ln hI (by omega)) (fun r3 m3 e3 => ?_)
    obtain ⟨rfl, hfr⟩ := e3
    have hF1 := hF0.tr (hfr.mono (fun a k q => sQ_Be q))
    refine Ev.goto (q := 25) dX12_worstLight_20 (by decide) ?_
    refine rI dX12_worstLight_25 rfl ?_
    refine ⟨?_, hF1⟩
    unfold q_worst
    rw [if_pos hLL]
    simp only [Int.toNat_natCast]
set_option maxRecDepth 4000 in
theorem p_X12_bestLight {Γ : Gm} {d : Nat} {m : Mem} (l : Int) (hI : HI (m 212)) : Ci Γ (d + 7) MX12_bestLight [rv 211, iv l] m (fun r m' => r = q_bestL (m 212) l ∧ Fr sQ m m') := by
  refine Ci.of moX12_bestLight rfl rfl (fun hA hM => ?_)
  show Em Γ (d + 7) MX12_bestLight _ 0 [rv 211, iv l] [] m
  refine Ev.aload_n (q := 1) dX12_bestLight_0 rfl rfl ?_
  refine Ev.iconst (q := 2) dX12_bestLight_1 ki_0 rfl ?_
  refine pI (q := 5) dX12_bestLight_2 gfX12_1 k211 rfl rfl ?_
  obtain ⟨M0, hM0⟩ : ∃ M0, M0 = up m 211 0 0 := ⟨_, rfl⟩
  rw [← hM0]
  have hF0 : Fr sQ m M0 := by rw [hM0]; exact (Fr.rf _ _).up rfl
  have g0 : M0 212 = m 212 := hF0.row 212 (fun _ => rfl)
  rw [← g0] at hI ⊢
  have hF12 := hI.1
  have hL3 := hI.2.1
  have hP8 := hI.2.2.1
  refine Ev.aload_n (q := 6) dX12_bestLight_5 rfl rfl ?_
  refine Ev.iload_n (q := 7) dX12_bestLight_6 rfl rfl ?_
  refine Ev.i2l (q := 8) dX12_bestLight_7 rfl ?_
  refine cV1i (q := 11) (d' := d + 6) dX12_bestLight_8 mlX12_230 moX12_isLift mvX12_isLift k211 rfl rfl rfl (Nat.le_refl _) rfl rfl rfl (p_X12_isLift l (by omega)) (fun r1 m1 e1 => ?_)
  obtain ⟨rfl, e1⟩ := e1
  obtain rfl := e1.symm
  refine Ev.if_eq (tgt := 23) (q := 14) dX12_bestLight_11 (by decide) rfl (fun h2 => ?_) (fun h2 => ?_)
  · skip
    have hLL : ¬ (0 ≤ l ∧ l < M0 212 2) := by split at h2 <;> omega
    refine Ev.bipush (q := 25) dX12_bestLight_23 kb_m2 rfl ?_
    refine rI dX12_bestLight_25 rfl ?_
    refine ⟨?_, hF0⟩
    unfold q_bestL
    rw [if_neg hLL]
  · skip
    have hLL : 0 ≤ l ∧ l < M0 212 2 := by split at h2 <;> omega
    obtain ⟨ln, rfl⟩ : ∃ ln : Nat, l = ln := ⟨l.toNat, by omega⟩
    have hliftln := hI.lift (l := ln) (by omega)
    have e66ln : M0 212 (66 + ln) = ((litV (M0 212) ln : Nat) : Int) := by unfold litV; have := hliftln.2.1.1; omega
    have hlokln := hI.litOk (l := ln) (by omega)
    refine Ev.aload_n (q := 15) dX12_bestLight_14 rfl rfl ?_
    refine Ev.iload_n (q := 16) dX12_bestLight_15 rfl rfl ?_
    refine Ev.iconst (q := 17) dX12_bestLight_16 ki_0 rfl ?_
    refine cV2i (q := 20) (d' := d + 6) dX12_bestLight_17 mlX12_388 moX12_changeBy mvX12_changeBy k211 rfl rfl rfl (Nat.le_refl _) rfl rfl rfl (p_X12_changeBy_false ln hI (by omega)) (fun r3 m3 e3 => ?_)
    obtain ⟨rfl, hfr⟩ := e3
    have hF1 := hF0.tr (hfr.mono (fun a k q => sQ_Be q))
    refine Ev.goto (q := 25) dX12_bestLight_20 (by decide) ?_
    refine rI dX12_bestLight_25 rfl ?_
    refine ⟨?_, hF1⟩
    unfold q_bestL
    rw [if_pos hLL]
    simp only [Int.toNat_natCast]
set_option maxRecDepth 4000 in
theorem p_X12_away {Γ : Gm} {d : Nat} {m : Mem} (f : Int) (hI : HI (m 212)) : Ci Γ (d + 2) MX12_away [rv 211, iv f] m (fun r m' => r = q_away (m 212) f ∧ Fr sQ m m') := by
  refine Ci.of moX12_away rfl rfl (fun hA hM => ?_)
  show Em Γ (d + 2) MX12_away _ 0 [rv 211, iv f] [] m
  refine Ev.aload_n (q := 1) dX12_away_0 rfl rfl ?_
  refine Ev.iconst (q := 2) dX12_away_1 ki_0 rfl ?_
  refine pI (q := 5) dX12_away_2 gfX12_1 k211 rfl rfl ?_
  obtain ⟨M0, hM0⟩ : ∃ M0, M0 = up m 211 0 0 := ⟨_, rfl⟩
  rw [← hM0]
  have hF0 : Fr sQ m M0 := by rw [hM0]; exact (Fr.rf _ _).up rfl
  have g0 : M0 212 = m 212 := hF0.row 212 (fun _ => rfl)
  rw [← g0] at hI ⊢
  have hF12 := hI.1
  have hL3 := hI.2.1
  have hP8 := hI.2.2.1
  refine Ev.aload_n (q := 6) dX12_away_5 rfl rfl ?_
  refine Ev.iload_n (q := 7) dX12_away_6 rfl rfl ?_
  refine Ev.i2l (q := 8) dX12_away_7 rfl ?_
  refine cV1i (q := 11) (d' := d + 1) dX12_away_8 mlX12_243 moX12_isFloor mvX12_isFloor k211 rfl rfl rfl (Nat.le_refl _) rfl rfl rfl (p_X12_isFloor f (by omega)) (fun r1 m1 e1 => ?_)
  obtain ⟨rfl, e1⟩ := e1
  obtain rfl := e1.symm
  refine Ev.if_eq (tgt := 22) (q := 14) dX12_away_11 (by decide) rfl (fun h2 => ?_) (fun h2 => ?_)
  · skip
    have hFF : ¬ (0 ≤ f ∧ f < M0 212 1) := by split at h2 <;> omega
    refine Ev.bipush (q := 24) dX12_away_22 kb_m2 rfl ?_
    refine rI dX12_away_24 rfl ?_
    refine ⟨?_, hF0⟩
    unfold q_away
    rw [if_neg hFF]
  · skip
    have hFF : 0 ≤ f ∧ f < M0 212 1 := by split at h2 <;> omega
    obtain ⟨fn, rfl⟩ : ∃ fn : Nat, f = fn := ⟨f.toNat, by omega⟩
    refine Ev.aload_n (q := 15) dX12_away_14 rfl rfl ?_
    refine Ev.iload_n (q := 16) dX12_away_15 rfl rfl ?_
    refine cV1i (q := 19) (d' := d + 1) dX12_away_16 mlX12_411 moX12_awayFrom mvX12_awayFrom k211 rfl rfl rfl (Nat.le_refl _) rfl rfl rfl (p_X12_awayFrom fn (by omega) hI) (fun r3 m3 e3 => ?_)
    obtain ⟨rfl, e3⟩ := e3
    obtain rfl := e3.symm
    refine Ev.goto (q := 24) dX12_away_19 (by decide) ?_
    refine rI dX12_away_24 rfl ?_
    refine ⟨?_, hF0⟩
    unfold q_away
    rw [if_pos hFF]
    simp only [Int.toNat_natCast]
set_option maxRecDepth 4000 in
theorem l_rest {Γ : Gm} {d : Nat} {m M0 : Mem} (F : Nat) (hF : M0 212 1 = F) (hF12 : F ≤ 12) (hI : HI (M0 212)) (hfr0 : Fr sQ m M0) : ∀ (n f b : Nat), f + n = F → b < f → Em Γ (d + 2) MX12_rest (fun r m' => r = (rsN (M0 212) n f b : Int) ∧ Fr sQ m m') 9 [rv 211, iv b, iv f] [] M0 := by
  intro n
  induction n with
  | zero =>
    intro f b hf hb
    obtain rfl : F = f := by omega
    refine Ev.iload_n (q := 10) dX12_rest_9 rfl rfl ?_
    refine Ev.aload_n (q := 11) dX12_rest_10 rfl rfl ?_
    refine gR (q := 14) dX12_rest_11 gfX12_13 k211 r211_1 rfl rfl ?_
    refine Ev.iconst (q := 15) dX12_rest_14 ki_1 rfl ?_
    refine aI (q := 16) (k := 1) dX12_rest_15 k212 (by rfl) (by decide) rfl ?_
    rw [hF]
    refine Ev.icmp_ge (tgt := 40) (q := 19) dX12_rest_16 (by decide) rfl (fun h1 => ?_) (fun h1 => ?_)
    · skip
      refine Ev.iload_n (q := 41) dX12_rest_40 rfl rfl ?_
      refine rI dX12_rest_41 rfl ?_
      exact ⟨rfl, hfr0⟩
    · skip
      omega
  | succ n ih =>
    intro f b hf hb
    refine Ev.iload_n (q := 10) dX12_rest_9 rfl rfl ?_
    refine Ev.aload_n (q := 11) dX12_rest_10 rfl rfl ?_
    refine gR (q := 14) dX12_rest_11 gfX12_13 k211 r211_1 rfl rfl ?_
    refine Ev.iconst (q := 15) dX12_rest_14 ki_1 rfl ?_
    refine aI (q := 16) (k := 1) dX12_rest_15 k212 (by rfl) (by decide) rfl ?_
    rw [hF]
    refine Ev.icmp_ge (tgt := 40) (q := 19) dX12_rest_16 (by decide) rfl (fun h1 => ?_) (fun h1 => ?_)
    · skip
      omega
    · skip
      refine Ev.aload_n (q := 20) dX12_rest_19 rfl rfl ?_
      refine Ev.iload_n (q := 21) dX12_rest_20 rfl rfl ?_
      refine cV1i (q := 24) (d' := d + 1) dX12_rest_21 mlX12_411 moX12_awayFrom mvX12_awayFrom k211 rfl rfl rfl (Nat.le_refl _) rfl rfl rfl (p_X12_awayFrom f (by omega) hI) (fun r2 m2 e2 => ?_)
      obtain ⟨rfl, e2⟩ := e2
      obtain rfl := e2.symm
      refine Ev.aload_n (q := 25) dX12_rest_24 rfl rfl ?_
      refine Ev.iload_n (q := 26) dX12_rest_25 rfl rfl ?_
      refine cV1i (q := 29) (d' := d + 1) dX12_rest_26 mlX12_411 moX12_awayFrom mvX12_awayFrom k211 rfl rfl rfl (Nat.le_refl _) rfl rfl rfl (p_X12_awayFrom b (by omega) hI) (fun r3 m3 e3 => ?_)
      obtain ⟨rfl, e3⟩ := e3
      obtain rfl := e3.symm
      refine Ev.icmp_ge (tgt := 34) (q := 32) dX12_rest_29 (by decide) rfl (fun h4 => ?_) (fun h4 => ?_)
      · skip
        refine iinc_2 (q := 37) dX12_rest_34 rfl rfl rfl ?_
        refine Ev.goto (q := 9) dX12_rest_37 (by decide) ?_
        rw [w32_of (by omega) (by omega)]
        have hk9 := ih (f + 1) b (by omega) (by omega)
        rw [show rsN (M0 212) (n + 1) f b = rsN (M0 212) n (f + 1) b by conv => lhs; unfold rsN; rw [if_neg (by omega)]]
        exact hk9
      · skip
        refine Ev.iload_n (q := 33) dX12_rest_32 rfl rfl ?_
        refine istore_n_1 (q := 34) dX12_rest_33 rfl rfl rfl ?_
        refine iinc_2 (q := 37) dX12_rest_34 rfl rfl rfl ?_
        refine Ev.goto (q := 9) dX12_rest_37 (by decide) ?_
        rw [w32_of (by omega) (by omega)]
        have hk9 := ih (f + 1) f (by omega) (by omega)
        rw [show rsN (M0 212) (n + 1) f b = rsN (M0 212) n (f + 1) f by conv => lhs; unfold rsN; rw [if_pos (by omega)]]
        exact hk9
set_option maxRecDepth 4000 in
theorem p_X12_rest {Γ : Gm} {d : Nat} {m : Mem}  (hI : HI (m 212)) : Ci Γ (d + 2) MX12_rest [rv 211] m (fun r m' => r = q_rest (m 212) ∧ Fr sQ m m') := by
  refine Ci.of moX12_rest rfl rfl (fun hA hM => ?_)
  show Em Γ (d + 2) MX12_rest _ 0 [rv 211, uv, uv] [] m
  refine Ev.aload_n (q := 1) dX12_rest_0 rfl rfl ?_
  refine Ev.iconst (q := 2) dX12_rest_1 ki_0 rfl ?_
  refine pI (q := 5) dX12_rest_2 gfX12_1 k211 rfl rfl ?_
  obtain ⟨M0, hM0⟩ : ∃ M0, M0 = up m 211 0 0 := ⟨_, rfl⟩
  rw [← hM0]
  have hF0 : Fr sQ m M0 := by rw [hM0]; exact (Fr.rf _ _).up rfl
  have g0 : M0 212 = m 212 := hF0.row 212 (fun _ => rfl)
  rw [← g0] at hI ⊢
  have hF12 := hI.1
  have hL3 := hI.2.1
  have hP8 := hI.2.2.1
  refine Ev.iconst (q := 6) dX12_rest_5 ki_0 rfl ?_
  refine istore_n_1 (q := 7) dX12_rest_6 rfl rfl rfl ?_
  refine Ev.iconst (q := 8) dX12_rest_7 ki_1 rfl ?_
  refine istore_n_2 (q := 9) dX12_rest_8 rfl rfl rfl ?_
  obtain ⟨F, hF⟩ : ∃ F : Nat, M0 212 1 = F := ⟨(M0 212 1).toNat, by omega⟩
  unfold q_rest
  rw [hF, Int.toNat_natCast]
  have hk9 := l_rest (Γ := Γ) (d := d) (m := m) (M0 := M0) F hF (by omega) hI hF0 (F - 1) 1 0 (by omega) (by omega)
  exact hk9
set_option maxRecDepth 4000 in
theorem l_nearest {Γ : Gm} {d : Nat} {m M0 : Mem} (L f : Nat) (hL : M0 212 2 = L) (hL3 : L ≤ 3) (hf : (f : Int) < M0 212 1) (hI : HI (M0 212)) (hfr0 : Fr sQ m M0) : ∀ (n l : Nat) (b : Option Nat), l + n = L → (∀ c, b = some c → c < l) → Em Γ (d + 2) MX12_nearest (fun r m' => r = optI (nrN (M0 212) f n l b) ∧ Fr sQ m m') 21 [rv 211, iv f, iv (optI b), iv l] [] M0 := by
  have hF12 := hI.1
  intro n
  induction n with
  | zero =>
    intro l b hl hcl
    obtain rfl : L = l := by omega
    refine Ev.iload_n (q := 22) dX12_nearest_21 rfl rfl ?_
    refine Ev.aload_n (q := 23) dX12_nearest_22 rfl rfl ?_
    refine gR (q := 26) dX12_nearest_23 gfX12_13 k211 r211_1 rfl rfl ?_
    refine Ev.iconst (q := 27) dX12_nearest_26 ki_2 rfl ?_
    refine aI (q := 28) (k := 2) dX12_nearest_27 k212 (by rfl) (by decide) rfl ?_
    rw [hL]
    refine Ev.icmp_ge (tgt := 73) (q := 31) dX12_nearest_28 (by decide) rfl (fun h1 => ?_) (fun h1 => ?_)
    · skip
      refine Ev.iload_n (q := 74) dX12_nearest_73 rfl rfl ?_
      refine rI dX12_nearest_74 rfl ?_
      exact ⟨rfl, hfr0⟩
    · skip
      omega
  | succ n ih =>
    intro l b hl hcl
    have eL : ∀ l : Nat, l < L → M0 212 (60 + l) = ((M0 212 (60 + l)).toNat : Int) := fun l hl => by have := (hI.lift (l := l) (by omega)).1; omega
    cases b with
    | none =>
      refine Ev.iload_n (q := 22) dX12_nearest_21 rfl rfl ?_
      refine Ev.aload_n (q := 23) dX12_nearest_22 rfl rfl ?_
      refine gR (q := 26) dX12_nearest_23 gfX12_13 k211 r211_1 rfl rfl ?_
      refine Ev.iconst (q := 27) dX12_nearest_26 ki_2 rfl ?_
      refine aI (q := 28) (k := 2) dX12_nearest_27 k212 (by rfl) (by decide) rfl ?_
      rw [hL]
      refine Ev.icmp_ge (tgt := 73) (q := 31) dX12_nearest_28 (by decide) rfl (fun h1 => ?_) (fun h1 => ?_)
      · skip
        omega
      · skip
        refine Ev.iload_n (q := 32) dX12_nearest_31 rfl rfl ?_
        refine Ev.iconst (q := 33) dX12_nearest_32 ki_m1 rfl ?_
        refine Ev.icmp_eq (tgt := 65) (q := 36) dX12_nearest_33 (by decide) rfl (fun h2 => ?_) (fun h2 => ?_)
        · skip
          refine Ev.iload_n (q := 66) dX12_nearest_65 rfl rfl ?_
          refine istore_n_2 (q := 67) dX12_nearest_66 rfl rfl rfl ?_
          refine iinc_3 (q := 70) dX12_nearest_67 rfl rfl rfl ?_
          refine Ev.goto (q := 21) dX12_nearest_70 (by decide) ?_
          rw [w32_of (by omega) (by omega)]
          have hk9 := ih (l + 1) (some l) (by omega) (by intro c hc; cases hc; omega)
          rw [show nrN (M0 212) f (n + 1) l none = nrN (M0 212) f n (l + 1) (some l) by conv => lhs; unfold nrN; skip]
          exact hk9
        · skip
          exact absurd rfl h2
    | some c =>
      show Em Γ (d + 2) MX12_nearest _ 21 [rv 211, iv f, iv (c : Int), iv l] [] M0
      refine Ev.iload_n (q := 22) dX12_nearest_21 rfl rfl ?_
      refine Ev.aload_n (q := 23) dX12_nearest_22 rfl rfl ?_
      refine gR (q := 26) dX12_nearest_23 gfX12_13 k211 r211_1 rfl rfl ?_
      refine Ev.iconst (q := 27) dX12_nearest_26 ki_2 rfl ?_
      refine aI (q := 28) (k := 2) dX12_nearest_27 k212 (by rfl) (by decide) rfl ?_
      rw [hL]
      refine Ev.icmp_ge (tgt := 73) (q := 31) dX12_nearest_28 (by decide) rfl (fun h1 => ?_) (fun h1 => ?_)
      · skip
        omega
      · skip
        refine Ev.iload_n (q := 32) dX12_nearest_31 rfl rfl ?_
        refine Ev.iconst (q := 33) dX12_nearest_32 ki_m1 rfl ?_
        refine Ev.icmp_eq (tgt := 65) (q := 36) dX12_nearest_33 (by decide) rfl (fun h2 => ?_) (fun h2 => ?_)
        · skip
          have : ((c : Nat) : Int) = -1 := h2; omega
        · skip
          have hc3 := hcl c rfl
          have q1 := (hI.lift (l := l) (by omega)).1
          have q2 := (hI.lift (l := c) (by omega)).1
          refine Ev.aload_n (q := 37) dX12_nearest_36 rfl rfl ?_
          refine gR (q := 40) dX12_nearest_37 gfX12_13 k211 r211_1 rfl rfl ?_
          refine Ev.bipush (q := 42) dX12_nearest_40 kb_60 rfl ?_
          refine Ev.iload_n (q := 43) dX12_nearest_42 rfl rfl ?_
          refine Ev.iadd (q := 44) dX12_nearest_43 rfl ?_
          refine aI (q := 45) (k := 60 + l) dX12_nearest_44 k212 (by first | rfl | omega | (simp (disch := omega) only [w32_of]; omega)) (by omega) rfl ?_
          refine Ev.iload_n (q := 46) dX12_nearest_45 rfl rfl ?_
          rw [eL l (by omega)]
          refine cS2i (q := 49) (d' := d + 1) dX12_nearest_46 mlX12_218 moX12_far msX12_far rfl rfl (Nat.le_refl _) rfl rfl rfl (p_X12_far _ _) (fun r3 m3 e3 => ?_)
          obtain ⟨rfl, e3⟩ := e3
          obtain rfl := e3.symm
          rw [far_dst (M0 212 (60 + l)).toNat f (by omega) (by omega)]
          refine Ev.aload_n (q := 50) dX12_nearest_49 rfl rfl ?_
          refine gR (q := 53) dX12_nearest_50 gfX12_13 k211 r211_1 rfl rfl ?_
          refine Ev.bipush (q := 55) dX12_nearest_53 kb_60 rfl ?_
          refine Ev.iload_n (q := 56) dX12_nearest_55 rfl rfl ?_
          refine Ev.iadd (q := 57) dX12_nearest_56 rfl ?_
          refine aI (q := 58) (k := 60 + c) dX12_nearest_57 k212 (by first | rfl | omega | (simp (disch := omega) only [w32_of]; omega)) (by omega) rfl ?_
          refine Ev.iload_n (q := 59) dX12_nearest_58 rfl rfl ?_
          rw [eL c (by omega)]
          refine cS2i (q := 62) (d' := d + 1) dX12_nearest_59 mlX12_218 moX12_far msX12_far rfl rfl (Nat.le_refl _) rfl rfl rfl (p_X12_far _ _) (fun r4 m4 e4 => ?_)
          obtain ⟨rfl, e4⟩ := e4
          obtain rfl := e4.symm
          rw [far_dst (M0 212 (60 + c)).toNat f (by omega) (by omega)]
          refine Ev.icmp_ge (tgt := 67) (q := 65) dX12_nearest_62 (by decide) rfl (fun h5 => ?_) (fun h5 => ?_)
          · skip
            refine iinc_3 (q := 70) dX12_nearest_67 rfl rfl rfl ?_
            refine Ev.goto (q := 21) dX12_nearest_70 (by decide) ?_
            rw [w32_of (by omega) (by omega)]
            have hk9 := ih (l + 1) (some c) (by omega) (by intro c hc; cases hc; omega)
            rw [show nrN (M0 212) f (n + 1) l (some c) = nrN (M0 212) f n (l + 1) (some c) by conv => lhs; unfold nrN; dsimp only; rw [if_neg (by omega)]]
            exact hk9
          · skip
            refine Ev.iload_n (q := 66) dX12_nearest_65 rfl rfl ?_
            refine istore_n_2 (q := 67) dX12_nearest_66 rfl rfl rfl ?_
            refine iinc_3 (q := 70) dX12_nearest_67 rfl rfl rfl ?_
            refine Ev.goto (q := 21) dX12_nearest_70 (by decide) ?_
            rw [w32_of (by omega) (by omega)]
            have hk9 := ih (l + 1) (some l) (by omega) (by intro c hc; cases hc; omega)
            rw [show nrN (M0 212) f (n + 1) l (some c) = nrN (M0 212) f n (l + 1) (some l) by conv => lhs; unfold nrN; dsimp only; rw [if_pos (by omega)]]
            exact hk9
set_option maxRecDepth 4000 in
theorem p_X12_nearest {Γ : Gm} {d : Nat} {m : Mem} (f : Int) (hI : HI (m 212)) : Ci Γ (d + 2) MX12_nearest [rv 211, iv f] m (fun r m' => r = q_nearest (m 212) f ∧ Fr sQ m m') := by
  refine Ci.of moX12_nearest rfl rfl (fun hA hM => ?_)
  show Em Γ (d + 2) MX12_nearest _ 0 [rv 211, iv f, uv, uv] [] m
  refine Ev.aload_n (q := 1) dX12_nearest_0 rfl rfl ?_
  refine Ev.iconst (q := 2) dX12_nearest_1 ki_0 rfl ?_
  refine pI (q := 5) dX12_nearest_2 gfX12_1 k211 rfl rfl ?_
  obtain ⟨M0, hM0⟩ : ∃ M0, M0 = up m 211 0 0 := ⟨_, rfl⟩
  rw [← hM0]
  have hF0 : Fr sQ m M0 := by rw [hM0]; exact (Fr.rf _ _).up rfl
  have g0 : M0 212 = m 212 := hF0.row 212 (fun _ => rfl)
  rw [← g0] at hI ⊢
  have hF12 := hI.1
  have hL3 := hI.2.1
  have hP8 := hI.2.2.1
  refine Ev.aload_n (q := 6) dX12_nearest_5 rfl rfl ?_
  refine Ev.iload_n (q := 7) dX12_nearest_6 rfl rfl ?_
  refine Ev.i2l (q := 8) dX12_nearest_7 rfl ?_
  refine cV1i (q := 11) (d' := d + 1) dX12_nearest_8 mlX12_243 moX12_isFloor mvX12_isFloor k211 rfl rfl rfl (Nat.le_refl _) rfl rfl rfl (p_X12_isFloor f (by omega)) (fun r1 m1 e1 => ?_)
  obtain ⟨rfl, e1⟩ := e1
  obtain rfl := e1.symm
  refine Ev.if_ne (tgt := 17) (q := 14) dX12_nearest_11 (by decide) rfl (fun h2 => ?_) (fun h2 => ?_)
  · skip
    have hFF : 0 ≤ f ∧ f < M0 212 1 := by split at h2 <;> omega
    obtain ⟨fn, rfl⟩ : ∃ fn : Nat, f = fn := ⟨f.toNat, by omega⟩
    refine Ev.iconst (q := 18) dX12_nearest_17 ki_m1 rfl ?_
    refine istore_n_2 (q := 19) dX12_nearest_18 rfl rfl rfl ?_
    refine Ev.iconst (q := 20) dX12_nearest_19 ki_0 rfl ?_
    refine istore_n_3 (q := 21) dX12_nearest_20 rfl rfl rfl ?_
    obtain ⟨L, hL⟩ : ∃ L : Nat, M0 212 2 = L := ⟨(M0 212 2).toNat, by omega⟩
    unfold q_nearest
    rw [if_pos hFF, hL, Int.toNat_natCast, Int.toNat_natCast]
    have hk9 := l_nearest (Γ := Γ) (d := d) (m := m) (M0 := M0) L fn hL (by omega) (by omega) hI hF0 L 0 none (by omega) (by intro c hc; cases hc)
    exact hk9
  · skip
    have hFF : ¬ (0 ≤ f ∧ f < M0 212 1) := by split at h2 <;> omega
    refine Ev.bipush (q := 16) dX12_nearest_14 kb_m2 rfl ?_
    refine rI dX12_nearest_16 rfl ?_
    refine ⟨?_, hF0⟩
    unfold q_nearest
    rw [if_neg hFF]
set_option maxRecDepth 4000 in
theorem p_X12_least {Γ : Gm} {d : Nat} {m : Mem} (l what : Int) (hI : HI (m 212)) : Ci Γ (d + 8) MX12_least [rv 211, iv l, iv what] m (fun r m' => r = q_least (m 212) l what ∧ Fr sQ m m') := by
  refine Ci.of moX12_least rfl rfl (fun hA hM => ?_)
  show Em Γ (d + 8) MX12_least _ 0 [rv 211, iv l, iv what, uv] [] m
  refine Ev.aload_n (q := 1) dX12_least_0 rfl rfl ?_
  refine Ev.iconst (q := 2) dX12_least_1 ki_0 rfl ?_
  refine pI (q := 5) dX12_least_2 gfX12_1 k211 rfl rfl ?_
  obtain ⟨M0, hM0⟩ : ∃ M0, M0 = up m 211 0 0 := ⟨_, rfl⟩
  rw [← hM0]
  have hF0 : Fr sQ m M0 := by rw [hM0]; exact (Fr.rf _ _).up rfl
  have g0 : M0 212 = m 212 := hF0.row 212 (fun _ => rfl)
  rw [← g0] at hI ⊢
  have hF12 := hI.1
  have hL3 := hI.2.1
  have hP8 := hI.2.2.1
  refine Ev.aload_n (q := 6) dX12_least_5 rfl rfl ?_
  refine Ev.iload_n (q := 7) dX12_least_6 rfl rfl ?_
  refine Ev.i2l (q := 8) dX12_least_7 rfl ?_
  refine cV1i (q := 11) (d' := d + 7) dX12_least_8 mlX12_230 moX12_isLift mvX12_isLift k211 rfl rfl rfl (Nat.le_refl _) rfl rfl rfl (p_X12_isLift l (by omega)) (fun r1 m1 e1 => ?_)
  obtain ⟨rfl, e1⟩ := e1
  obtain rfl := e1.symm
  refine Ev.if_eq (tgt := 24) (q := 14) dX12_least_11 (by decide) rfl (fun h2 => ?_) (fun h2 => ?_)
  · skip
    have hLL : ¬ (0 ≤ l ∧ l < M0 212 2) := by split at h2 <;> omega
    refine Ev.ldc2 (q := 27) dX12_least_24 klX12_368 klvX12_368 rfl ?_
    refine rJ dX12_least_27 rfl ?_
    refine ⟨?_, hF0⟩
    unfold q_least
    rw [if_neg (fun z => hLL z.1)]
  · skip
    have hLL : 0 ≤ l ∧ l < M0 212 2 := by split at h2 <;> omega
    obtain ⟨ln, rfl⟩ : ∃ ln : Nat, l = ln := ⟨l.toNat, by omega⟩
    have hliftln := hI.lift (l := ln) (by omega)
    have e66ln : M0 212 (66 + ln) = ((litV (M0 212) ln : Nat) : Int) := by unfold litV; have := hliftln.2.1.1; omega
    have hlokln := hI.litOk (l := ln) (by omega)
    refine Ev.iload_n (q := 15) dX12_least_14 rfl rfl ?_
    refine Ev.i2l (q := 16) dX12_least_15 rfl ?_
    refine Ev.lconst (q := 17) dX12_least_16 kj_0 rfl ?_
    refine Ev.lconst (q := 18) dX12_least_17 kj_1 rfl ?_
    refine cS3i (q := 21) (d' := d + 7) dX12_least_18 mlX12_118 moX12_within msX12_within rfl rfl (Nat.le_refl _) rfl rfl rfl (p_X12_within _ _ _) (fun r3 m3 e3 => ?_)
    obtain ⟨rfl, e3⟩ := e3
    obtain rfl := e3.symm
    refine Ev.if_ne (tgt := 28) (q := 24) dX12_least_21 (by decide) rfl (fun h4 => ?_) (fun h4 => ?_)
    · skip
      have hWW : 0 ≤ what ∧ what ≤ 1 := by split at h4 <;> omega
      refine Ev.aload_n (q := 29) dX12_least_28 rfl rfl ?_
      refine Ev.iload_n (q := 30) dX12_least_29 rfl rfl ?_
      refine Ev.iconst (q := 31) dX12_least_30 ki_0 rfl ?_
      refine cV2i (q := 34) (d' := d + 7) dX12_least_31 mlX12_382 moX12_keptBy mvX12_keptBy k211 rfl rfl rfl (Nat.le_refl _) rfl rfl rfl (p_X12_keptBy_false ln hI (by omega)) (fun r5 m5 e5 => ?_)
      obtain ⟨rfl, hfr⟩ := e5
      have hF1 := hF0.tr (hfr.mono (fun a k q => sQ_Be q))
      have g1 : m5 212 = M0 212 := hfr.row 212 (fun _ => rfl)
      generalize m5 = M1 at *
      have hkok := keptV_ok hI (l := ln) (by omega) false
      refine istore_n_3 (q := 35) dX12_least_34 rfl rfl rfl ?_
      refine Ev.iload_n (q := 36) dX12_least_35 rfl rfl ?_
      refine Ev.if_ne (tgt := 48) (q := 39) dX12_least_36 (by decide) rfl (fun h6 => ?_) (fun h6 => ?_)
      · skip
        refine Ev.iload_n (q := 49) dX12_least_48 rfl rfl ?_
        refine Ev.i2l (q := 50) dX12_least_49 rfl ?_
        refine rJ dX12_least_50 rfl ?_
        refine ⟨?_, hF1⟩
        unfold q_least
        rw [if_pos ⟨hLL, hWW⟩, if_neg (by omega)]
        simp only [Int.toNat_natCast]
      · skip
        refine Ev.aload_n (q := 40) dX12_least_39 rfl rfl ?_
        refine Ev.iload_n (q := 41) dX12_least_40 rfl rfl ?_
        refine Ev.iload_n (q := 42) dX12_least_41 rfl rfl ?_
        refine cV2j (q := 45) (d' := d + 7) dX12_least_42 mlX12_364 moX12_sumBy mvX12_sumBy k211 rfl rfl rfl (Nat.le_refl _) rfl rfl rfl (p_X12_sumBy ln (keptV (M0 212) ln false) (by rw [g1]; exact hI) (by rw [g1]; omega) (by rw [g1]; exact hkok)) (fun r7 m7 e7 => ?_)
        obtain ⟨rfl, hfr2⟩ := e7
        have hF2 := hF1.tr (hfr2.mono (fun a k q => sQ_Be q))
        refine Ev.goto (q := 50) dX12_least_45 (by decide) ?_
        refine rJ dX12_least_50 rfl ?_
        refine ⟨?_, hF2⟩
        unfold q_least
        rw [if_pos ⟨hLL, hWW⟩, if_pos (by omega), g1]
        simp only [Int.toNat_natCast]
    · skip
      have hWW : ¬ (0 ≤ what ∧ what ≤ 1) := by split at h4 <;> omega
      refine Ev.ldc2 (q := 27) dX12_least_24 klX12_368 klvX12_368 rfl ?_
      refine rJ dX12_least_27 rfl ?_
      refine ⟨?_, hF0⟩
      unfold q_least
      rw [if_neg (fun z => hWW z.2)]
set_option maxRecDepth 4000 in
theorem p_X12_fairest {Γ : Gm} {d : Nat} {m : Mem} (l what : Int) (hI : HI (m 212)) : Ci Γ (d + 8) MX12_fairest [rv 211, iv l, iv what] m (fun r m' => r = q_fairest (m 212) l what ∧ Fr sQ m m') := by
  refine Ci.of moX12_fairest rfl rfl (fun hA hM => ?_)
  show Em Γ (d + 8) MX12_fairest _ 0 [rv 211, iv l, iv what, uv] [] m
  refine Ev.aload_n (q := 1) dX12_fairest_0 rfl rfl ?_
  refine Ev.iconst (q := 2) dX12_fairest_1 ki_0 rfl ?_
  refine pI (q := 5) dX12_fairest_2 gfX12_1 k211 rfl rfl ?_
  obtain ⟨M0, hM0⟩ : ∃ M0, M0 = up m 211 0 0 := ⟨_, rfl⟩
  rw [← hM0]
  have hF0 : Fr sQ m M0 := by rw [hM0]; exact (Fr.rf _ _).up rfl
  have g0 : M0 212 = m 212 := hF0.row 212 (fun _ => rfl)
  rw [← g0] at hI ⊢
  have hF12 := hI.1
  have hL3 := hI.2.1
  have hP8 := hI.2.2.1
  refine Ev.aload_n (q := 6) dX12_fairest_5 rfl rfl ?_
  refine Ev.iload_n (q := 7) dX12_fairest_6 rfl rfl ?_
  refine Ev.i2l (q := 8) dX12_fairest_7 rfl ?_
  refine cV1i (q := 11) (d' := d + 7) dX12_fairest_8 mlX12_230 moX12_isLift mvX12_isLift k211 rfl rfl rfl (Nat.le_refl _) rfl rfl rfl (p_X12_isLift l (by omega)) (fun r1 m1 e1 => ?_)
  obtain ⟨rfl, e1⟩ := e1
  obtain rfl := e1.symm
  refine Ev.if_eq (tgt := 24) (q := 14) dX12_fairest_11 (by decide) rfl (fun h2 => ?_) (fun h2 => ?_)
  · skip
    have hLL : ¬ (0 ≤ l ∧ l < M0 212 2) := by split at h2 <;> omega
    refine Ev.bipush (q := 26) dX12_fairest_24 kb_m2 rfl ?_
    refine rI dX12_fairest_26 rfl ?_
    refine ⟨?_, hF0⟩
    unfold q_fairest
    rw [if_neg (fun z => hLL z.1)]
  · skip
    have hLL : 0 ≤ l ∧ l < M0 212 2 := by split at h2 <;> omega
    obtain ⟨ln, rfl⟩ : ∃ ln : Nat, l = ln := ⟨l.toNat, by omega⟩
    have hliftln := hI.lift (l := ln) (by omega)
    have e66ln : M0 212 (66 + ln) = ((litV (M0 212) ln : Nat) : Int) := by unfold litV; have := hliftln.2.1.1; omega
    have hlokln := hI.litOk (l := ln) (by omega)
    refine Ev.iload_n (q := 15) dX12_fairest_14 rfl rfl ?_
    refine Ev.i2l (q := 16) dX12_fairest_15 rfl ?_
    refine Ev.lconst (q := 17) dX12_fairest_16 kj_0 rfl ?_
    refine Ev.lconst (q := 18) dX12_fairest_17 kj_1 rfl ?_
    refine cS3i (q := 21) (d' := d + 7) dX12_fairest_18 mlX12_118 moX12_within msX12_within rfl rfl (Nat.le_refl _) rfl rfl rfl (p_X12_within _ _ _) (fun r3 m3 e3 => ?_)
    obtain ⟨rfl, e3⟩ := e3
    obtain rfl := e3.symm
    refine Ev.if_ne (tgt := 27) (q := 24) dX12_fairest_21 (by decide) rfl (fun h4 => ?_) (fun h4 => ?_)
    · skip
      have hWW : 0 ≤ what ∧ what ≤ 1 := by split at h4 <;> omega
      refine Ev.aload_n (q := 28) dX12_fairest_27 rfl rfl ?_
      refine Ev.iload_n (q := 29) dX12_fairest_28 rfl rfl ?_
      refine Ev.iconst (q := 30) dX12_fairest_29 ki_1 rfl ?_
      refine cV2i (q := 33) (d' := d + 7) dX12_fairest_30 mlX12_382 moX12_keptBy mvX12_keptBy k211 rfl rfl rfl (Nat.le_refl _) rfl rfl rfl (p_X12_keptBy_true ln hI (by omega)) (fun r5 m5 e5 => ?_)
      obtain ⟨rfl, hfr⟩ := e5
      have hF1 := hF0.tr (hfr.mono (fun a k q => sQ_Be q))
      have g1 : m5 212 = M0 212 := hfr.row 212 (fun _ => rfl)
      generalize m5 = M1 at *
      have hkok := keptV_ok hI (l := ln) (by omega) true
      refine istore_n_3 (q := 34) dX12_fairest_33 rfl rfl rfl ?_
      refine Ev.iload_n (q := 35) dX12_fairest_34 rfl rfl ?_
      refine Ev.if_ne (tgt := 47) (q := 38) dX12_fairest_35 (by decide) rfl (fun h6 => ?_) (fun h6 => ?_)
      · skip
        refine Ev.iload_n (q := 48) dX12_fairest_47 rfl rfl ?_
        refine rI dX12_fairest_48 rfl ?_
        refine ⟨?_, hF1⟩
        unfold q_fairest
        rw [if_pos ⟨hLL, hWW⟩, if_neg (by omega)]
        simp only [Int.toNat_natCast]
      · skip
        refine Ev.aload_n (q := 39) dX12_fairest_38 rfl rfl ?_
        refine Ev.iload_n (q := 40) dX12_fairest_39 rfl rfl ?_
        refine Ev.iload_n (q := 41) dX12_fairest_40 rfl rfl ?_
        refine cV2i (q := 44) (d' := d + 7) dX12_fairest_41 mlX12_370 moX12_latestBy mvX12_latestBy k211 rfl rfl rfl (Nat.le_refl _) rfl rfl rfl (p_X12_latestBy ln (keptV (M0 212) ln true) (by rw [g1]; exact hI) (by rw [g1]; omega) (by rw [g1]; exact hkok)) (fun r7 m7 e7 => ?_)
        obtain ⟨rfl, hfr2⟩ := e7
        have hF2 := hF1.tr (hfr2.mono (fun a k q => sQ_Be q))
        refine Ev.goto (q := 48) dX12_fairest_44 (by decide) ?_
        refine rI dX12_fairest_48 rfl ?_
        refine ⟨?_, hF2⟩
        unfold q_fairest
        rw [if_pos ⟨hLL, hWW⟩, if_pos (by omega), g1]
        simp only [Int.toNat_natCast]
    · skip
      have hWW : ¬ (0 ≤ what ∧ what ≤ 1) := by split at h4 <;> omega
      refine Ev.bipush (q := 26) dX12_fairest_24 kb_m2 rfl ?_
      refine rI dX12_fairest_26 rfl ?_
      refine ⟨?_, hF0⟩
      unfold q_fairest
      rw [if_neg (fun z => hWW z.2)]
set_option maxRecDepth 4000 in
theorem p_X12_costs {Γ : Gm} {d : Nat} {m : Mem} (l f : Int) (hI : HI (m 212)) : Ci Γ (d + 6) MX12_costs [rv 211, iv l, iv f] m (fun r m' => r = q_costs (m 212) l f ∧ Fr sQ m m') := by
  refine Ci.of moX12_costs rfl rfl (fun hA hM => ?_)
  show Em Γ (d + 6) MX12_costs _ 0 [rv 211, iv l, iv f] [] m
  refine Ev.aload_n (q := 1) dX12_costs_0 rfl rfl ?_
  refine Ev.iconst (q := 2) dX12_costs_1 ki_0 rfl ?_
  refine pI (q := 5) dX12_costs_2 gfX12_1 k211 rfl rfl ?_
  obtain ⟨M0, hM0⟩ : ∃ M0, M0 = up m 211 0 0 := ⟨_, rfl⟩
  rw [← hM0]
  have hF0 : Fr sQ m M0 := by rw [hM0]; exact (Fr.rf _ _).up rfl
  have g0 : M0 212 = m 212 := hF0.row 212 (fun _ => rfl)
  rw [← g0] at hI ⊢
  have hF12 := hI.1
  have hL3 := hI.2.1
  have hP8 := hI.2.2.1
  refine Ev.aload_n (q := 6) dX12_costs_5 rfl rfl ?_
  refine Ev.iload_n (q := 7) dX12_costs_6 rfl rfl ?_
  refine Ev.i2l (q := 8) dX12_costs_7 rfl ?_
  refine cV1i (q := 11) (d' := d + 5) dX12_costs_8 mlX12_230 moX12_isLift mvX12_isLift k211 rfl rfl rfl (Nat.le_refl _) rfl rfl rfl (p_X12_isLift l (by omega)) (fun r1 m1 e1 => ?_)
  obtain ⟨rfl, e1⟩ := e1
  obtain rfl := e1.symm
  refine Ev.if_eq (tgt := 40) (q := 14) dX12_costs_11 (by decide) rfl (fun h2 => ?_) (fun h2 => ?_)
  · skip
    have hLL : ¬ (0 ≤ l ∧ l < M0 212 2) := by split at h2 <;> omega
    refine Ev.ldc2 (q := 43) dX12_costs_40 klX12_386 klvX12_386 rfl ?_
    refine rJ dX12_costs_43 rfl ?_
    refine ⟨?_, hF0⟩
    unfold q_costs
    rw [if_neg (fun z => hLL z.1)]
  · skip
    have hLL : 0 ≤ l ∧ l < M0 212 2 := by split at h2 <;> omega
    obtain ⟨ln, rfl⟩ : ∃ ln : Nat, l = ln := ⟨l.toNat, by omega⟩
    have hliftln := hI.lift (l := ln) (by omega)
    have e66ln : M0 212 (66 + ln) = ((litV (M0 212) ln : Nat) : Int) := by unfold litV; have := hliftln.2.1.1; omega
    have hlokln := hI.litOk (l := ln) (by omega)
    refine Ev.aload_n (q := 15) dX12_costs_14 rfl rfl ?_
    refine Ev.iload_n (q := 16) dX12_costs_15 rfl rfl ?_
    refine Ev.i2l (q := 17) dX12_costs_16 rfl ?_
    refine cV1i (q := 20) (d' := d + 5) dX12_costs_17 mlX12_243 moX12_isFloor mvX12_isFloor k211 rfl rfl rfl (Nat.le_refl _) rfl rfl rfl (p_X12_isFloor f (by omega)) (fun r3 m3 e3 => ?_)
    obtain ⟨rfl, e3⟩ := e3
    obtain rfl := e3.symm
    refine Ev.if_eq (tgt := 40) (q := 23) dX12_costs_20 (by decide) rfl (fun h4 => ?_) (fun h4 => ?_)
    · skip
      have hFF : ¬ (0 ≤ f ∧ f < M0 212 1) := by split at h4 <;> omega
      refine Ev.ldc2 (q := 43) dX12_costs_40 klX12_386 klvX12_386 rfl ?_
      refine rJ dX12_costs_43 rfl ?_
      refine ⟨?_, hF0⟩
      unfold q_costs
      rw [if_neg (fun z => hFF z.2.1)]
    · skip
      have hFF : 0 ≤ f ∧ f < M0 212 1 := by split at h4 <;> omega
      obtain ⟨fn, rfl⟩ : ∃ fn : Nat, f = fn := ⟨f.toNat, by omega⟩
      refine Ev.aload_n (q := 24) dX12_costs_23 rfl rfl ?_
      refine gR (q := 27) dX12_costs_24 gfX12_13 k211 r211_1 rfl rfl ?_
      refine Ev.bipush (q := 29) dX12_costs_27 kb_66 rfl ?_
      refine Ev.iload_n (q := 30) dX12_costs_29 rfl rfl ?_
      refine Ev.iadd (q := 31) dX12_costs_30 rfl ?_
      refine aI (q := 32) (k := 66 + ln) dX12_costs_31 k212 (by first | rfl | omega | (simp (disch := omega) only [w32_of]; omega)) (by omega) rfl ?_
      rw [e66ln]
      refine Ev.i2l (q := 33) dX12_costs_32 rfl ?_
      refine Ev.iload_n (q := 34) dX12_costs_33 rfl rfl ?_
      refine cS2i (q := 37) (d' := d + 5) dX12_costs_34 mlX12_207 moX12_isIn msX12_isIn rfl rfl (Nat.le_refl _) rfl rfl rfl (p_X12_isIn (litV (M0 212) ln) fn (hlokln.lt hI) (by omega)) (fun r5 m5 e5 => ?_)
      obtain ⟨rfl, e5⟩ := e5
      obtain rfl := e5.symm
      refine Ev.if_ne (tgt := 44) (q := 40) dX12_costs_37 (by decide) rfl (fun h6 => ?_) (fun h6 => ?_)
      · skip
        have hbt : (litV (M0 212) ln).testBit fn = true := by split at h6 <;> simp_all
        refine Ev.aload_n (q := 45) dX12_costs_44 rfl rfl ?_
        refine Ev.iload_n (q := 46) dX12_costs_45 rfl rfl ?_
        refine Ev.aload_n (q := 47) dX12_costs_46 rfl rfl ?_
        refine gR (q := 50) dX12_costs_47 gfX12_13 k211 r211_1 rfl rfl ?_
        refine Ev.bipush (q := 52) dX12_costs_50 kb_66 rfl ?_
        refine Ev.iload_n (q := 53) dX12_costs_52 rfl rfl ?_
        refine Ev.iadd (q := 54) dX12_costs_53 rfl ?_
        refine aI (q := 55) (k := 66 + ln) dX12_costs_54 k212 (by first | rfl | omega | (simp (disch := omega) only [w32_of]; omega)) (by omega) rfl ?_
        rw [e66ln]
        refine cV2j (q := 58) (d' := d + 5) dX12_costs_55 mlX12_364 moX12_sumBy mvX12_sumBy k211 rfl rfl rfl (Nat.le_refl _) rfl rfl rfl (p_X12_sumBy ln (litV (M0 212) ln) hI (by omega) hlokln) (fun r7 m7 e7 => ?_)
        obtain ⟨rfl, hfr⟩ := e7
        have hF1 := hF0.tr (hfr.mono (fun a k q => sQ_Be q))
        have g1 : m7 212 = M0 212 := hfr.row 212 (fun _ => rfl)
        generalize m7 = M1 at *
        refine Ev.aload_n (q := 59) dX12_costs_58 rfl rfl ?_
        refine Ev.iload_n (q := 60) dX12_costs_59 rfl rfl ?_
        refine Ev.aload_n (q := 61) dX12_costs_60 rfl rfl ?_
        refine gR (q := 64) dX12_costs_61 gfX12_13 k211 r211_1 rfl rfl ?_
        refine Ev.bipush (q := 66) dX12_costs_64 kb_66 rfl ?_
        refine Ev.iload_n (q := 67) dX12_costs_66 rfl rfl ?_
        refine Ev.iadd (q := 68) dX12_costs_67 rfl ?_
        refine aI (q := 69) (k := 66 + ln) dX12_costs_68 k212 (by first | rfl | omega | (simp (disch := omega) only [w32_of]; omega)) (by omega) rfl ?_
        rw [g1, e66ln]
        refine Ev.iconst (q := 70) dX12_costs_69 ki_1 rfl ?_
        refine Ev.iload_n (q := 71) dX12_costs_70 rfl rfl ?_
        refine Ev.ishl (q := 72) dX12_costs_71 rfl ?_
        rw [ishl_1 fn (by omega)]
        refine Ev.iconst (q := 73) dX12_costs_72 ki_m1 rfl ?_
        refine Ev.ixor (q := 74) dX12_costs_73 rfl ?_
        refine Ev.iand (q := 75) dX12_costs_74 rfl ?_
        rw [iandn_n (by have := hlokln.lt hI; omega)]
        refine cV2j (q := 78) (d' := d + 5) dX12_costs_75 mlX12_364 moX12_sumBy mvX12_sumBy k211 rfl rfl rfl (Nat.le_refl _) rfl rfl rfl (p_X12_sumBy ln (dif (litV (M0 212) ln) (2 ^ fn)) (by rw [g1]; exact hI) (by rw [g1]; omega) (by rw [g1]; exact litOk_dif hlokln)) (fun r8 m8 e8 => ?_)
        obtain ⟨rfl, hfr2⟩ := e8
        have hF2 := hF1.tr (hfr2.mono (fun a k q => sQ_Be q))
        refine Ev.lsub (q := 79) dX12_costs_78 rfl ?_
        refine rJ dX12_costs_79 rfl ?_
        refine ⟨?_, hF2⟩
        unfold q_costs
        rw [if_pos ⟨hLL, hFF, by simpa only [Int.toNat_natCast] using hbt⟩, g1]
        simp only [Int.toNat_natCast]
      · skip
        have hbt : ¬ (litV (M0 212) ln).testBit fn = true := by split at h6 <;> simp_all
        refine Ev.ldc2 (q := 43) dX12_costs_40 klX12_386 klvX12_386 rfl ?_
        refine rJ dX12_costs_43 rfl ?_
        refine ⟨?_, hF0⟩
        unfold q_costs
        rw [if_neg (fun z => hbt (by simpa only [Int.toNat_natCast] using z.2.2))]
