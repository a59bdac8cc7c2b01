/-! ===== the reference: answers ===== -/
def sQ (a k : Nat) : Bool := (a == 211 && (k == 0 || (decide (18 ≤ k) && decide (k ≤ 31)))) || a == 216 || a == 217 || a == 218 || a == 219
theorem sQ_T {a k : Nat} (h : sQ a k = false) : sT a k = false := by
  unfold sQ at h; unfold sT
  simp at h ⊢
  refine ⟨⟨fun h1 h2 => ?_, h.1.1.1.2⟩, h.1.1.2⟩
  have := h.1.1.1.1 h1
  omega
theorem sQ_Be {a k : Nat} (h : sQ a k = false) : sBe a k = false := by
  have h1 := sQ_T h
  unfold sBe
  rw [h1]
  unfold sQ at h
  simp at h ⊢
  intro h2 h3
  have := h.1.1.1.1 h2
  omega
theorem sQ_Pt {a k : Nat} (h : sQ a k = false) : sPt a k = false := by
  have h1 := sQ_T h
  unfold sPt
  rw [h1]
  unfold sQ at h
  simp at h ⊢
  intro h2 h3
  have := h.1.1.1.1 h2
  omega
theorem sQ_Lf {a k : Nat} (h : sQ a k = false) : sLf a k = false := by
  have h1 := sQ_T h
  unfold sLf
  rw [h1]
  unfold sQ at h
  simp at h ⊢
  refine ⟨fun h2 => ?_, h.2⟩
  have := h.1.1.1.1 h2
  omega
theorem sQ_218 {a k : Nat} (h : sQ a k = false) : s218 a k = false := by unfold sQ at h; unfold s218; simp at h ⊢; exact h.1.2
theorem sQ_16 {a k : Nat} (h : sQ a k = false) : s1617 a k = false := sT_16 (sQ_T h)
def q_lift (g : Nat → Int) (l what : Int) : Int := if 0 ≤ l ∧ l < g 2 then (if what = 0 then g (60 + l.toNat) else if what = 1 then g (63 + l.toNat) else if what = 2 then g (66 + l.toNat) else if what = 3 then g (69 + l.toNat) else if what = 4 then (inS g l.toNat : Int) else if what = 5 then g (22 + l.toNat) else if what = 6 then optI (nxt (litV g l.toNat) (g (60 + l.toNat)).toNat (decide (g (69 + l.toNat) = 1))) else -8) else -8
def q_person (g : Nat → Int) (p what : Int) : Int := if 0 ≤ p ∧ p < g 3 then (if what = 0 then g (72 + p.toNat) else if what = 1 then g (80 + p.toNat) else if what = 2 then g (88 + p.toNat) else if what = 3 then g (28 + p.toNat) else if what = 4 then g (36 + p.toNat) else if what = 5 then g (44 + p.toNat) else if what = 6 then g (52 + p.toNat) else -8) else -8
def q_foot (g : Nat → Int) (p f t : Int) : Int := if (0 ≤ p ∧ p < g 3) ∧ (0 ≤ f ∧ f < g 1) ∧ (0 ≤ t ∧ t < g 1) then footV g p.toNat f.toNat t.toNat else -2
def q_stop (g : Nat → Int) (l f n : Int) : Int := if (0 ≤ l ∧ l < g 2) ∧ (0 ≤ f ∧ f < g 1) then (if 1 ≤ n ∧ n ≤ 11 then stopV g l.toNat f.toNat n.toNat else -3) else -2
def q_calls (g : Nat → Int) (f : Int) : Int := if 0 ≤ f ∧ f < g 1 then g (10 + f.toNat) else -2
def q_stops (g : Nat → Int) (l : Int) : Int := if 0 ≤ l ∧ l < g 2 then (pop (litV g l.toNat) : Int) else -2
def q_all (g : Nat → Int) (l : Int) : Int := if 0 ≤ l ∧ l < g 2 then sumV g l.toNat (litV g l.toNat) else -2
def q_latest (g : Nat → Int) (l : Int) : Int := if 0 ≤ l ∧ l < g 2 then latV g l.toNat (litV g l.toNat) else -2
def cmV (g : Nat → Int) (l f : Nat) : Int := match rto (g (22 + l)) (stopV g l) f 13 (liftT g l) with
  | some t => t.2.2.2.2
  | none => -1
def q_comes (g : Nat → Int) (l f : Int) : Int := if (0 ≤ l ∧ l < g 2) ∧ (0 ≤ f ∧ f < g 1) then cmV g l.toNat f.toNat else -2
def q_best (g : Nat → Int) (p what : Int) : Int := if (0 ≤ p ∧ p < g 3) ∧ (0 ≤ what ∧ what ≤ 1) then (if what = 0 then (bestN g p.toNat).1 else (bestN g p.toNat).2) else -2
def q_homeBy (g : Nat → Int) (p f : Int) : Int := if (0 ≤ p ∧ p < g 3) ∧ (0 ≤ f ∧ f < g 1) then (if g (88 + p.toNat) = -1 then -5 else if f = g (72 + p.toNat) then w32 (g (80 + p.toNat) + footV g p.toNat f.toNat (g (28 + p.toNat)).toNat) else
  if cmV g (g (88 + p.toNat)).toNat f.toNat = -1 then -1 else w32 (cmV g (g (88 + p.toNat)).toNat f.toNat + footV g p.toNat f.toNat (g (28 + p.toNat)).toNat)) else -2
def q_waits (g : Nat → Int) (p l : Int) : Int := if (0 ≤ p ∧ p < g 3) ∧ (0 ≤ l ∧ l < g 2) then (if g (88 + p.toNat) = -1 then waitV g p.toNat l.toNat else -5) else -2
def rdK (sp : Int) (st : Nat → Nat → Int) : Nat → Tr → Int
  | 0, t => match tgo sp st t with
    | none => -1
    | some t' => (t'.1 : Int)
  | n + 1, t => match tgo sp st t with
    | none => -1
    | some t' => rdK sp st n t'
def q_stopAt (g : Nat → Int) (l k : Int) : Int := if 0 ≤ l ∧ l < g 2 then (if k < 0 then -3 else if 12 ≤ k then -1 else rdK (g (22 + l.toNat)) (stopV g l.toNat) k.toNat (liftT g l.toNat)) else -2
def rOut (sp : Int) (st : Nat → Nat → Int) : Nat → Tr → Int
  | 0, t => t.2.1
  | n + 1, t => match tgo sp st t with
    | none => t.2.1
    | some t' => rOut sp st n t'
def q_restsBy (g : Nat → Int) (l : Int) : Int := if 0 ≤ l ∧ l < g 2 then rOut (g (22 + l.toNat)) (stopV g l.toNat) 13 (liftT g l.toNat) else -2
set_option maxRecDepth 4000 in
theorem p_X12_lift {Γ : Gm} {d : Nat} {m : Mem} (l what : Int) (hI : HI (m 212)) : Ci Γ (d + 3) MX12_lift [rv 211, iv l, iv what] m (fun r m' => r = q_lift (m 212) l what ∧ Fr sQ m m') := by
  refine Ci.of moX12_lift rfl rfl (fun hA hM => ?_)
  show Em Γ (d + 3) MX12_lift _ 0 [rv 211, iv l, iv what] [] m
  refine Ev.aload_n (q := 1) dX12_lift_0 rfl rfl ?_
  refine Ev.iconst (q := 2) dX12_lift_1 ki_0 rfl ?_
  refine pI (q := 5) dX12_lift_2 gfX12_1 k211 rfl rfl ?_
  obtain ⟨M0, hM0⟩ : ∃ M0, M0 = up m 211 0 0 := ⟨_, rfl⟩
  rw [← hM0]
  have hF0 : Fr sQ m M0 := by rw [hM0]; exact (Fr.rf _ _).up rfl
  have g0 : M0 212 = m 212 := hF0.row 212 (fun _ => rfl)
  rw [← g0] at hI ⊢
  have hF12 := hI.1
  have hL3 := hI.2.1
  have hP8 := hI.2.2.1
  refine Ev.aload_n (q := 6) dX12_lift_5 rfl rfl ?_
  refine Ev.iload_n (q := 7) dX12_lift_6 rfl rfl ?_
  refine Ev.i2l (q := 8) dX12_lift_7 rfl ?_
  refine cV1i (q := 11) (d' := d + 2) dX12_lift_8 mlX12_230 moX12_isLift mvX12_isLift k211 rfl rfl rfl (Nat.le_refl _) rfl rfl rfl (p_X12_isLift l (by omega)) (fun r1 m1 e1 => ?_)
  obtain ⟨rfl, e1⟩ := e1
  obtain rfl := e1.symm
  refine Ev.if_ne (tgt := 17) (q := 14) dX12_lift_11 (by decide) rfl (fun h2 => ?_) (fun h2 => ?_)
  · skip
    have hLL : 0 ≤ l ∧ l < M0 212 2 := by split at h2 <;> omega
    obtain ⟨ln, rfl⟩ : ∃ ln : Nat, l = ln := ⟨l.toNat, by omega⟩
    have hliftln := hI.lift (l := ln) (by omega)
    have e66ln : M0 212 (66 + ln) = ((litV (M0 212) ln : Nat) : Int) := by unfold litV; have := hliftln.2.1.1; omega
    have hlokln := hI.litOk (l := ln) (by omega)
    refine Ev.aload_n (q := 18) dX12_lift_17 rfl rfl ?_
    refine Ev.iload_n (q := 19) dX12_lift_18 rfl rfl ?_
    refine cV1v (q := 22) (d' := d + 2) dX12_lift_19 mlX12_234 moX12_loads mvX12_loads k211 rfl rfl rfl (Nat.le_refl _) rfl rfl rfl (p_X12_loads ln (by omega) hliftln.1.1 hliftln.2.1.1) (fun r3 m3 e3 => ?_)
    obtain ⟨hT0, hfr3⟩ := e3
    have hF1 := hF0.tr (hfr3.mono (fun a k q => sQ_T q))
    have g1 : m3 212 = M0 212 := hfr3.row 212 (fun _ => rfl)
    generalize m3 = M1 at *
    refine Ev.iload_n (q := 23) dX12_lift_22 rfl rfl ?_
    by_cases w0 : what = 0
    · subst w0
      refine Ev.tabIn (q := 64) dX12_lift_23 (by decide) (by decide) rfl rfl ?_
      refine Ev.aload_n (q := 65) dX12_lift_64 rfl rfl ?_
      refine gI (q := 68) dX12_lift_65 gfX12_194 k211 rfl rfl ?_
      refine rI dX12_lift_68 rfl ?_
      refine ⟨?_, hF1⟩
      unfold q_lift
      rw [if_pos hLL, if_pos rfl]
      simp only [Int.toNat_natCast]
      rw [hT0.2.1]
      show (((M0 212 (60 + ln)).toNat : Nat) : Int) = _
      have := hliftln.1.1
      omega
    by_cases w1 : what = 1
    · subst w1
      refine Ev.tabIn (q := 69) dX12_lift_23 (by decide) (by decide) rfl rfl ?_
      refine Ev.aload_n (q := 70) dX12_lift_69 rfl rfl ?_
      refine gI (q := 73) dX12_lift_70 gfX12_197 k211 rfl rfl ?_
      refine rI dX12_lift_73 rfl ?_
      refine ⟨?_, hF1⟩
      unfold q_lift
      rw [if_pos hLL, if_neg (show ¬ (1 : Int) = 0 by decide), if_pos rfl]
      simp only [Int.toNat_natCast]
      rw [hT0.2.2.1]
      rfl
    by_cases w2 : what = 2
    · subst w2
      refine Ev.tabIn (q := 74) dX12_lift_23 (by decide) (by decide) rfl rfl ?_
      refine Ev.aload_n (q := 75) dX12_lift_74 rfl rfl ?_
      refine gI (q := 78) dX12_lift_75 gfX12_200 k211 rfl rfl ?_
      refine rI dX12_lift_78 rfl ?_
      refine ⟨?_, hF1⟩
      unfold q_lift
      rw [if_pos hLL, if_neg (show ¬ (2 : Int) = 0 by decide), if_neg (show ¬ (2 : Int) = 1 by decide), if_pos rfl]
      simp only [Int.toNat_natCast]
      rw [hT0.2.2.2.1]
      show (((M0 212 (66 + ln)).toNat : Nat) : Int) = _
      have := hliftln.2.1.1
      omega
    by_cases w3 : what = 3
    · subst w3
      refine Ev.tabIn (q := 79) dX12_lift_23 (by decide) (by decide) rfl rfl ?_
      refine Ev.aload_n (q := 80) dX12_lift_79 rfl rfl ?_
      refine gI (q := 83) dX12_lift_80 gfX12_203 k211 rfl rfl ?_
      refine Ev.if_eq (tgt := 90) (q := 86) dX12_lift_83 (by decide) rfl (fun h4 => ?_) (fun h4 => ?_)
      · skip
        have h23 : M1 211 23 = (if decide (M0 212 (69 + ln) = 1) = true then 1 else 0) := hT0.2.2.2.2
        simp only [decide_eq_true_eq] at h23
        have hup : M0 212 (69 + ln) = 0 := by have := hliftln.2.2.1; split at h23 <;> omega
        refine Ev.iconst (q := 91) dX12_lift_90 ki_0 rfl ?_
        refine rI dX12_lift_91 rfl ?_
        refine ⟨?_, hF1⟩
        unfold q_lift
        rw [if_pos hLL, if_neg (show ¬ (3 : Int) = 0 by decide), if_neg (show ¬ (3 : Int) = 1 by decide), if_neg (show ¬ (3 : Int) = 2 by decide), if_pos rfl]
        simp only [Int.toNat_natCast]
        rw [hup]
      · skip
        have h23 : M1 211 23 = (if decide (M0 212 (69 + ln) = 1) = true then 1 else 0) := hT0.2.2.2.2
        simp only [decide_eq_true_eq] at h23
        have hup : M0 212 (69 + ln) = 1 := by have := hliftln.2.2.1; split at h23 <;> omega
        refine Ev.iconst (q := 87) dX12_lift_86 ki_1 rfl ?_
        refine Ev.goto (q := 91) dX12_lift_87 (by decide) ?_
        refine rI dX12_lift_91 rfl ?_
        refine ⟨?_, hF1⟩
        unfold q_lift
        rw [if_pos hLL, if_neg (show ¬ (3 : Int) = 0 by decide), if_neg (show ¬ (3 : Int) = 1 by decide), if_neg (show ¬ (3 : Int) = 2 by decide), if_pos rfl]
        simp only [Int.toNat_natCast]
        rw [hup]
    by_cases w4 : what = 4
    · subst w4
      refine Ev.tabIn (q := 92) dX12_lift_23 (by decide) (by decide) rfl rfl ?_
      refine Ev.aload_n (q := 93) dX12_lift_92 rfl rfl ?_
      refine Ev.iload_n (q := 94) dX12_lift_93 rfl rfl ?_
      refine cV1i (q := 97) (d' := d + 2) dX12_lift_94 mlX12_237 moX12_isInSet mvX12_isInSet k211 rfl rfl rfl (Nat.le_refl _) rfl rfl rfl (p_X12_isInSet ln (by rw [g1]; omega)) (fun r5 m5 e5 => ?_)
      obtain ⟨rfl, e5⟩ := e5
      obtain rfl := e5.symm
      refine rI dX12_lift_97 rfl ?_
      refine ⟨?_, hF1⟩
      unfold q_lift
      rw [if_pos hLL, if_neg (show ¬ (4 : Int) = 0 by decide), if_neg (show ¬ (4 : Int) = 1 by decide), if_neg (show ¬ (4 : Int) = 2 by decide), if_neg (show ¬ (4 : Int) = 3 by decide), if_pos rfl]
      simp only [Int.toNat_natCast]
      rw [g1]
    by_cases w5 : what = 5
    · subst w5
      refine Ev.tabIn (q := 98) dX12_lift_23 (by decide) (by decide) rfl rfl ?_
      refine Ev.aload_n (q := 99) dX12_lift_98 rfl rfl ?_
      refine gR (q := 102) dX12_lift_99 gfX12_13 k211 r211_1 rfl rfl ?_
      refine Ev.bipush (q := 104) dX12_lift_102 kb_22 rfl ?_
      refine Ev.iload_n (q := 105) dX12_lift_104 rfl rfl ?_
      refine Ev.iadd (q := 106) dX12_lift_105 rfl ?_
      refine aI (q := 107) (k := 22 + ln) dX12_lift_106 k212 (by first | rfl | omega | (simp (disch := omega) only [w32_of]; omega)) (by omega) rfl ?_
      refine rI dX12_lift_107 rfl ?_
      refine ⟨?_, hF1⟩
      unfold q_lift
      rw [if_pos hLL, if_neg (show ¬ (5 : Int) = 0 by decide), if_neg (show ¬ (5 : Int) = 1 by decide), if_neg (show ¬ (5 : Int) = 2 by decide), if_neg (show ¬ (5 : Int) = 3 by decide), if_neg (show ¬ (5 : Int) = 4 by decide), if_pos rfl]
      simp only [Int.toNat_natCast]
      rw [g1]
    by_cases w6 : what = 6
    · subst w6
      refine Ev.tabIn (q := 108) dX12_lift_23 (by decide) (by decide) rfl rfl ?_
      refine Ev.aload_n (q := 109) dX12_lift_108 rfl rfl ?_
      refine cV0i (q := 112) (d' := d + 2) dX12_lift_109 mlX12_215 moX12_nextStop mvX12_nextStop k211 rfl rfl rfl (Nat.le_refl _) rfl rfl rfl (p_X12_nextStop (decide (M0 212 (69 + ln) = 1)) (M0 212 (60 + ln)).toNat (litV (M0 212) ln) (M0 212 1).toNat hT0.2.1 hT0.2.2.2.1 (by rw [g1]; omega) (by omega) (by omega) hlokln.1 hT0.2.2.2.2) (fun r6 m6 e6 => ?_)
      obtain ⟨rfl, e6⟩ := e6
      obtain rfl := e6.symm
      refine rI dX12_lift_112 rfl ?_
      refine ⟨?_, hF1⟩
      unfold q_lift
      rw [if_pos hLL, if_neg (show ¬ (6 : Int) = 0 by decide), if_neg (show ¬ (6 : Int) = 1 by decide), if_neg (show ¬ (6 : Int) = 2 by decide), if_neg (show ¬ (6 : Int) = 3 by decide), if_neg (show ¬ (6 : Int) = 4 by decide), if_neg (show ¬ (6 : Int) = 5 by decide), if_pos rfl]
      simp only [Int.toNat_natCast]
    refine Ev.tabOut (q := 113) dX12_lift_23 (by omega) rfl ?_
    refine Ev.bipush (q := 115) dX12_lift_113 kb_m8 rfl ?_
    refine rI dX12_lift_115 rfl ?_
    refine ⟨?_, hF1⟩
    unfold q_lift
    rw [if_pos hLL, if_neg w0, if_neg w1, if_neg w2, if_neg w3, if_neg w4, if_neg w5, if_neg w6]
  · skip
    have hLL : ¬ (0 ≤ l ∧ l < M0 212 2) := by split at h2 <;> omega
    refine Ev.bipush (q := 16) dX12_lift_14 kb_m8 rfl ?_
    refine rI dX12_lift_16 rfl ?_
    refine ⟨?_, hF0⟩
    unfold q_lift
    rw [if_neg hLL]
set_option maxRecDepth 4000 in
theorem p_X12_person {Γ : Gm} {d : Nat} {m : Mem} (p what : Int) (hI : HI (m 212)) : Ci Γ (d + 2) MX12_person [rv 211, iv p, iv what] m (fun r m' => r = q_person (m 212) p what ∧ Fr sQ m m') := by
  refine Ci.of moX12_person rfl rfl (fun hA hM => ?_)
  show Em Γ (d + 2) MX12_person _ 0 [rv 211, iv p, iv what] [] m
  refine Ev.aload_n (q := 1) dX12_person_0 rfl rfl ?_
  refine Ev.iconst (q := 2) dX12_person_1 ki_0 rfl ?_
  refine pI (q := 5) dX12_person_2 gfX12_1 k211 rfl rfl ?_
  obtain ⟨M0, hM0⟩ : ∃ M0, M0 = up m 211 0 0 := ⟨_, rfl⟩
  rw [← hM0]
  have hF0 : Fr sQ m M0 := by rw [hM0]; exact (Fr.rf _ _).up rfl
  have g0 : M0 212 = m 212 := hF0.row 212 (fun _ => rfl)
  rw [← g0] at hI ⊢
  have hF12 := hI.1
  have hL3 := hI.2.1
  have hP8 := hI.2.2.1
  refine Ev.aload_n (q := 6) dX12_person_5 rfl rfl ?_
  refine Ev.iload_n (q := 7) dX12_person_6 rfl rfl ?_
  refine Ev.i2l (q := 8) dX12_person_7 rfl ?_
  refine cV1i (q := 11) (d' := d + 1) dX12_person_8 mlX12_240 moX12_isPerson mvX12_isPerson k211 rfl rfl rfl (Nat.le_refl _) rfl rfl rfl (p_X12_isPerson p (by omega)) (fun r1 m1 e1 => ?_)
  obtain ⟨rfl, e1⟩ := e1
  obtain rfl := e1.symm
  refine Ev.if_ne (tgt := 17) (q := 14) dX12_person_11 (by decide) rfl (fun h2 => ?_) (fun h2 => ?_)
  · skip
    have hPP : 0 ≤ p ∧ p < M0 212 3 := by split at h2 <;> omega
    obtain ⟨pn, rfl⟩ : ∃ pn : Nat, p = pn := ⟨p.toNat, by omega⟩
    have hperspn := hI.pers (p := pn) (by omega)
    refine Ev.iload_n (q := 18) dX12_person_17 rfl rfl ?_
    by_cases w0 : what = 0
    · subst w0
      refine Ev.tabIn (q := 60) dX12_person_18 (by decide) (by decide) rfl rfl ?_
      refine Ev.aload_n (q := 61) dX12_person_60 rfl rfl ?_
      refine gR (q := 64) dX12_person_61 gfX12_13 k211 r211_1 rfl rfl ?_
      refine Ev.bipush (q := 66) dX12_person_64 kb_72 rfl ?_
      refine Ev.iload_n (q := 67) dX12_person_66 rfl rfl ?_
      refine Ev.iadd (q := 68) dX12_person_67 rfl ?_
      refine aI (q := 69) (k := 72 + pn) dX12_person_68 k212 (by first | rfl | omega | (simp (disch := omega) only [w32_of]; omega)) (by omega) rfl ?_
      refine rI dX12_person_69 rfl ?_
      refine ⟨?_, hF0⟩
      unfold q_person
      rw [if_pos hPP, if_pos rfl]
      simp only [Int.toNat_natCast]
    by_cases w1 : what = 1
    · subst w1
      refine Ev.tabIn (q := 70) dX12_person_18 (by decide) (by decide) rfl rfl ?_
      refine Ev.aload_n (q := 71) dX12_person_70 rfl rfl ?_
      refine gR (q := 74) dX12_person_71 gfX12_13 k211 r211_1 rfl rfl ?_
      refine Ev.bipush (q := 76) dX12_person_74 kb_80 rfl ?_
      refine Ev.iload_n (q := 77) dX12_person_76 rfl rfl ?_
      refine Ev.iadd (q := 78) dX12_person_77 rfl ?_
      refine aI (q := 79) (k := 80 + pn) dX12_person_78 k212 (by first | rfl | omega | (simp (disch := omega) only [w32_of]; omega)) (by omega) rfl ?_
      refine rI dX12_person_79 rfl ?_
      refine ⟨?_, hF0⟩
      unfold q_person
      rw [if_pos hPP, if_neg (show ¬ (1 : Int) = 0 by decide), if_pos rfl]
      simp only [Int.toNat_natCast]
    by_cases w2 : what = 2
    · subst w2
      refine Ev.tabIn (q := 80) dX12_person_18 (by decide) (by decide) rfl rfl ?_
      refine Ev.aload_n (q := 81) dX12_person_80 rfl rfl ?_
      refine gR (q := 84) dX12_person_81 gfX12_13 k211 r211_1 rfl rfl ?_
      refine Ev.bipush (q := 86) dX12_person_84 kb_88 rfl ?_
      refine Ev.iload_n (q := 87) dX12_person_86 rfl rfl ?_
      refine Ev.iadd (q := 88) dX12_person_87 rfl ?_
      refine aI (q := 89) (k := 88 + pn) dX12_person_88 k212 (by first | rfl | omega | (simp (disch := omega) only [w32_of]; omega)) (by omega) rfl ?_
      refine rI dX12_person_89 rfl ?_
      refine ⟨?_, hF0⟩
      unfold q_person
      rw [if_pos hPP, if_neg (show ¬ (2 : Int) = 0 by decide), if_neg (show ¬ (2 : Int) = 1 by decide), if_pos rfl]
      simp only [Int.toNat_natCast]
    by_cases w3 : what = 3
    · subst w3
      refine Ev.tabIn (q := 90) dX12_person_18 (by decide) (by decide) rfl rfl ?_
      refine Ev.aload_n (q := 91) dX12_person_90 rfl rfl ?_
      refine gR (q := 94) dX12_person_91 gfX12_13 k211 r211_1 rfl rfl ?_
      refine Ev.bipush (q := 96) dX12_person_94 kb_28 rfl ?_
      refine Ev.iload_n (q := 97) dX12_person_96 rfl rfl ?_
      refine Ev.iadd (q := 98) dX12_person_97 rfl ?_
      refine aI (q := 99) (k := 28 + pn) dX12_person_98 k212 (by first | rfl | omega | (simp (disch := omega) only [w32_of]; omega)) (by omega) rfl ?_
      refine rI dX12_person_99 rfl ?_
      refine ⟨?_, hF0⟩
      unfold q_person
      rw [if_pos hPP, if_neg (show ¬ (3 : Int) = 0 by decide), if_neg (show ¬ (3 : Int) = 1 by decide), if_neg (show ¬ (3 : Int) = 2 by decide), if_pos rfl]
      simp only [Int.toNat_natCast]
    by_cases w4 : what = 4
    · subst w4
      refine Ev.tabIn (q := 100) dX12_person_18 (by decide) (by decide) rfl rfl ?_
      refine Ev.aload_n (q := 101) dX12_person_100 rfl rfl ?_
      refine gR (q := 104) dX12_person_101 gfX12_13 k211 r211_1 rfl rfl ?_
      refine Ev.bipush (q := 106) dX12_person_104 kb_36 rfl ?_
      refine Ev.iload_n (q := 107) dX12_person_106 rfl rfl ?_
      refine Ev.iadd (q := 108) dX12_person_107 rfl ?_
      refine aI (q := 109) (k := 36 + pn) dX12_person_108 k212 (by first | rfl | omega | (simp (disch := omega) only [w32_of]; omega)) (by omega) rfl ?_
      refine rI dX12_person_109 rfl ?_
      refine ⟨?_, hF0⟩
      unfold q_person
      rw [if_pos hPP, if_neg (show ¬ (4 : Int) = 0 by decide), if_neg (show ¬ (4 : Int) = 1 by decide), if_neg (show ¬ (4 : Int) = 2 by decide), if_neg (show ¬ (4 : Int) = 3 by decide), if_pos rfl]
      simp only [Int.toNat_natCast]
    by_cases w5 : what = 5
    · subst w5
      refine Ev.tabIn (q := 110) dX12_person_18 (by decide) (by decide) rfl rfl ?_
      refine Ev.aload_n (q := 111) dX12_person_110 rfl rfl ?_
      refine gR (q := 114) dX12_person_111 gfX12_13 k211 r211_1 rfl rfl ?_
      refine Ev.bipush (q := 116) dX12_person_114 kb_44 rfl ?_
      refine Ev.iload_n (q := 117) dX12_person_116 rfl rfl ?_
      refine Ev.iadd (q := 118) dX12_person_117 rfl ?_
      refine aI (q := 119) (k := 44 + pn) dX12_person_118 k212 (by first | rfl | omega | (simp (disch := omega) only [w32_of]; omega)) (by omega) rfl ?_
      refine rI dX12_person_119 rfl ?_
      refine ⟨?_, hF0⟩
      unfold q_person
      rw [if_pos hPP, if_neg (show ¬ (5 : Int) = 0 by decide), if_neg (show ¬ (5 : Int) = 1 by decide), if_neg (show ¬ (5 : Int) = 2 by decide), if_neg (show ¬ (5 : Int) = 3 by decide), if_neg (show ¬ (5 : Int) = 4 by decide), if_pos rfl]
      simp only [Int.toNat_natCast]
    by_cases w6 : what = 6
    · subst w6
      refine Ev.tabIn (q := 120) dX12_person_18 (by decide) (by decide) rfl rfl ?_
      refine Ev.aload_n (q := 121) dX12_person_120 rfl rfl ?_
      refine gR (q := 124) dX12_person_121 gfX12_13 k211 r211_1 rfl rfl ?_
      refine Ev.bipush (q := 126) dX12_person_124 kb_52 rfl ?_
      refine Ev.iload_n (q := 127) dX12_person_126 rfl rfl ?_
      refine Ev.iadd (q := 128) dX12_person_127 rfl ?_
      refine aI (q := 129) (k := 52 + pn) dX12_person_128 k212 (by first | rfl | omega | (simp (disch := omega) only [w32_of]; omega)) (by omega) rfl ?_
      refine rI dX12_person_129 rfl ?_
      refine ⟨?_, hF0⟩
      unfold q_person
      rw [if_pos hPP, if_neg (show ¬ (6 : Int) = 0 by decide), if_neg (show ¬ (6 : Int) = 1 by decide), if_neg (show ¬ (6 : Int) = 2 by decide), if_neg (show ¬ (6 : Int) = 3 by decide), if_neg (show ¬ (6 : Int) = 4 by decide), if_neg (show ¬ (6 : Int) = 5 by decide), if_pos rfl]
      simp only [Int.toNat_natCast]
    refine Ev.tabOut (q := 130) dX12_person_18 (by omega) rfl ?_
    refine Ev.bipush (q := 132) dX12_person_130 kb_m8 rfl ?_
    refine rI dX12_person_132 rfl ?_
    refine ⟨?_, hF0⟩
    unfold q_person
    rw [if_pos hPP, if_neg w0, if_neg w1, if_neg w2, if_neg w3, if_neg w4, if_neg w5, if_neg w6]
  · skip
    have hPP : ¬ (0 ≤ p ∧ p < M0 212 3) := by split at h2 <;> omega
    refine Ev.bipush (q := 16) dX12_person_14 kb_m8 rfl ?_
    refine rI dX12_person_16 rfl ?_
    refine ⟨?_, hF0⟩
    unfold q_person
    rw [if_neg hPP]
set_option maxRecDepth 4000 in
theorem p_X12_foot {Γ : Gm} {d : Nat} {m : Mem} (p f t : Int) (hI : HI (m 212)) : Ci Γ (d + 3) MX12_foot [rv 211, iv p, iv f, iv t] m (fun r m' => r = q_foot (m 212) p f t ∧ Fr sQ m m') := by
  refine Ci.of moX12_foot rfl rfl (fun hA hM => ?_)
  show Em Γ (d + 3) MX12_foot _ 0 [rv 211, iv p, iv f, iv t] [] m
  refine Ev.aload_n (q := 1) dX12_foot_0 rfl rfl ?_
  refine Ev.iconst (q := 2) dX12_foot_1 ki_0 rfl ?_
  refine pI (q := 5) dX12_foot_2 gfX12_1 k211 rfl rfl ?_
  obtain ⟨M0, hM0⟩ : ∃ M0, M0 = up m 211 0 0 := ⟨_, rfl⟩
  rw [← hM0]
  have hF0 : Fr sQ m M0 := by rw [hM0]; exact (Fr.rf _ _).up rfl
  have g0 : M0 212 = m 212 := hF0.row 212 (fun _ => rfl)
  rw [← g0] at hI ⊢
  have hF12 := hI.1
  have hL3 := hI.2.1
  have hP8 := hI.2.2.1
  refine Ev.aload_n (q := 6) dX12_foot_5 rfl rfl ?_
  refine Ev.iload_n (q := 7) dX12_foot_6 rfl rfl ?_
  refine Ev.i2l (q := 8) dX12_foot_7 rfl ?_
  refine cV1i (q := 11) (d' := d + 2) dX12_foot_8 mlX12_240 moX12_isPerson mvX12_isPerson k211 rfl rfl rfl (Nat.le_refl _) rfl rfl rfl (p_X12_isPerson p (by omega)) (fun r1 m1 e1 => ?_)
  obtain ⟨rfl, e1⟩ := e1
  obtain rfl := e1.symm
  refine Ev.if_eq (tgt := 42) (q := 14) dX12_foot_11 (by decide) rfl (fun h2 => ?_) (fun h2 => ?_)
  · skip
    have hPP : ¬ (0 ≤ p ∧ p < M0 212 3) := by split at h2 <;> omega
    refine Ev.bipush (q := 44) dX12_foot_42 kb_m2 rfl ?_
    refine rI dX12_foot_44 rfl ?_
    refine ⟨?_, hF0⟩
    unfold q_foot
    rw [if_neg (fun z => hPP z.1)]
  · skip
    have hPP : 0 ≤ p ∧ p < M0 212 3 := by split at h2 <;> omega
    obtain ⟨pn, rfl⟩ : ∃ pn : Nat, p = pn := ⟨p.toNat, by omega⟩
    have hperspn := hI.pers (p := pn) (by omega)
    refine Ev.aload_n (q := 15) dX12_foot_14 rfl rfl ?_
    refine Ev.iload_n (q := 16) dX12_foot_15 rfl rfl ?_
    refine Ev.i2l (q := 17) dX12_foot_16 rfl ?_
    refine cV1i (q := 20) (d' := d + 2) dX12_foot_17 mlX12_243 moX12_isFloor mvX12_isFloor k211 rfl rfl rfl (Nat.le_refl _) rfl rfl rfl (p_X12_isFloor f (by omega)) (fun r3 m3 e3 => ?_)
    obtain ⟨rfl, e3⟩ := e3
    obtain rfl := e3.symm
    refine Ev.if_eq (tgt := 42) (q := 23) dX12_foot_20 (by decide) rfl (fun h4 => ?_) (fun h4 => ?_)
    · skip
      have hFF : ¬ (0 ≤ f ∧ f < M0 212 1) := by split at h4 <;> omega
      refine Ev.bipush (q := 44) dX12_foot_42 kb_m2 rfl ?_
      refine rI dX12_foot_44 rfl ?_
      refine ⟨?_, hF0⟩
      unfold q_foot
      rw [if_neg (fun z => hFF z.2.1)]
    · skip
      have hFF : 0 ≤ f ∧ f < M0 212 1 := by split at h4 <;> omega
      obtain ⟨fn, rfl⟩ : ∃ fn : Nat, f = fn := ⟨f.toNat, by omega⟩
      refine Ev.aload_n (q := 24) dX12_foot_23 rfl rfl ?_
      refine Ev.iload_n (q := 25) dX12_foot_24 rfl rfl ?_
      refine Ev.i2l (q := 26) dX12_foot_25 rfl ?_
      refine cV1i (q := 29) (d' := d + 2) dX12_foot_26 mlX12_243 moX12_isFloor mvX12_isFloor k211 rfl rfl rfl (Nat.le_refl _) rfl rfl rfl (p_X12_isFloor t (by omega)) (fun r5 m5 e5 => ?_)
      obtain ⟨rfl, e5⟩ := e5
      obtain rfl := e5.symm
      refine Ev.if_eq (tgt := 42) (q := 32) dX12_foot_29 (by decide) rfl (fun h6 => ?_) (fun h6 => ?_)
      · skip
        have hTT : ¬ (0 ≤ t ∧ t < M0 212 1) := by split at h6 <;> omega
        refine Ev.bipush (q := 44) dX12_foot_42 kb_m2 rfl ?_
        refine rI dX12_foot_44 rfl ?_
        refine ⟨?_, hF0⟩
        unfold q_foot
        rw [if_neg (fun z => hTT z.2.2)]
      · skip
        have hTT : 0 ≤ t ∧ t < M0 212 1 := by split at h6 <;> omega
        obtain ⟨tn, rfl⟩ : ∃ tn : Nat, t = tn := ⟨t.toNat, by omega⟩
        refine Ev.aload_n (q := 33) dX12_foot_32 rfl rfl ?_
        refine Ev.iload_n (q := 34) dX12_foot_33 rfl rfl ?_
        refine Ev.iload_n (q := 35) dX12_foot_34 rfl rfl ?_
        refine Ev.iload_n (q := 36) dX12_foot_35 rfl rfl ?_
        refine cV3i (q := 39) (d' := d + 2) dX12_foot_36 mlX12_246 moX12_footOf mvX12_footOf k211 rfl rfl rfl (Nat.le_refl _) rfl rfl rfl (p_X12_footOf pn fn tn (by omega) (by omega) (by omega) hI.law0 hperspn.2.1 hperspn.2.2.1) (fun r7 m7 e7 => ?_)
        obtain ⟨rfl, hfr⟩ := e7
        have hF1 := hF0.tr (hfr.mono (fun a k q => sQ_16 q))
        refine Ev.goto (q := 44) dX12_foot_39 (by decide) ?_
        refine rI dX12_foot_44 rfl ?_
        refine ⟨?_, hF1⟩
        unfold q_foot
        rw [if_pos ⟨hPP, hFF, hTT⟩]
        simp only [Int.toNat_natCast]
set_option maxRecDepth 4000 in
theorem p_X12_stop {Γ : Gm} {d : Nat} {m : Mem} (l f n : Int) (hI : HI (m 212)) : Ci Γ (d + 3) MX12_stop [rv 211, iv l, iv f, iv n] m (fun r m' => r = q_stop (m 212) l f n ∧ Fr sQ m m') := by
  refine Ci.of moX12_stop rfl rfl (fun hA hM => ?_)
  show Em Γ (d + 3) MX12_stop _ 0 [rv 211, iv l, iv f, iv n] [] m
  refine Ev.aload_n (q := 1) dX12_stop_0 rfl rfl ?_
  refine Ev.iconst (q := 2) dX12_stop_1 ki_0 rfl ?_
  refine pI (q := 5) dX12_stop_2 gfX12_1 k211 rfl rfl ?_
  obtain ⟨M0, hM0⟩ : ∃ M0, M0 = up m 211 0 0 := ⟨_, rfl⟩
  rw [← hM0]
  have hF0 : Fr sQ m M0 := by rw [hM0]; exact (Fr.rf _ _).up rfl
  have g0 : M0 212 = m 212 := hF0.row 212 (fun _ => rfl)
  rw [← g0] at hI ⊢
  have hF12 := hI.1
  have hL3 := hI.2.1
  have hP8 := hI.2.2.1
  refine Ev.aload_n (q := 6) dX12_stop_5 rfl rfl ?_
  refine Ev.iload_n (q := 7) dX12_stop_6 rfl rfl ?_
  refine Ev.i2l (q := 8) dX12_stop_7 rfl ?_
  refine cV1i (q := 11) (d' := d + 2) dX12_stop_8 mlX12_230 moX12_isLift mvX12_isLift k211 rfl rfl rfl (Nat.le_refl _) rfl rfl rfl (p_X12_isLift l (by omega)) (fun r1 m1 e1 => ?_)
  obtain ⟨rfl, e1⟩ := e1
  obtain rfl := e1.symm
  refine Ev.if_eq (tgt := 23) (q := 14) dX12_stop_11 (by decide) rfl (fun h2 => ?_) (fun h2 => ?_)
  · skip
    have hLL : ¬ (0 ≤ l ∧ l < M0 212 2) := by split at h2 <;> omega
    refine Ev.bipush (q := 25) dX12_stop_23 kb_m2 rfl ?_
    refine rI dX12_stop_25 rfl ?_
    refine ⟨?_, hF0⟩
    unfold q_stop
    rw [if_neg (fun z => hLL z.1)]
  · skip
    have hLL : 0 ≤ l ∧ l < M0 212 2 := by split at h2 <;> omega
    obtain ⟨ln, rfl⟩ : ∃ ln : Nat, l = ln := ⟨l.toNat, by omega⟩
    have hliftln := hI.lift (l := ln) (by omega)
    have e66ln : M0 212 (66 + ln) = ((litV (M0 212) ln : Nat) : Int) := by unfold litV; have := hliftln.2.1.1; omega
    have hlokln := hI.litOk (l := ln) (by omega)
    refine Ev.aload_n (q := 15) dX12_stop_14 rfl rfl ?_
    refine Ev.iload_n (q := 16) dX12_stop_15 rfl rfl ?_
    refine Ev.i2l (q := 17) dX12_stop_16 rfl ?_
    refine cV1i (q := 20) (d' := d + 2) dX12_stop_17 mlX12_243 moX12_isFloor mvX12_isFloor k211 rfl rfl rfl (Nat.le_refl _) rfl rfl rfl (p_X12_isFloor f (by omega)) (fun r3 m3 e3 => ?_)
    obtain ⟨rfl, e3⟩ := e3
    obtain rfl := e3.symm
    refine Ev.if_ne (tgt := 26) (q := 23) dX12_stop_20 (by decide) rfl (fun h4 => ?_) (fun h4 => ?_)
    · skip
      have hFF : 0 ≤ f ∧ f < M0 212 1 := by split at h4 <;> omega
      obtain ⟨fn, rfl⟩ : ∃ fn : Nat, f = fn := ⟨f.toNat, by omega⟩
      refine Ev.iload_n (q := 27) dX12_stop_26 rfl rfl ?_
      refine Ev.i2l (q := 28) dX12_stop_27 rfl ?_
      refine Ev.lconst (q := 29) dX12_stop_28 kj_1 rfl ?_
      refine Ev.ldc2 (q := 32) dX12_stop_29 klX12_249 klvX12_249 rfl ?_
      refine cS3i (q := 35) (d' := d + 2) dX12_stop_32 mlX12_118 moX12_within msX12_within rfl rfl (Nat.le_refl _) rfl rfl rfl (p_X12_within _ _ _) (fun r5 m5 e5 => ?_)
      obtain ⟨rfl, e5⟩ := e5
      obtain rfl := e5.symm
      refine Ev.if_eq (tgt := 48) (q := 38) dX12_stop_35 (by decide) rfl (fun h6 => ?_) (fun h6 => ?_)
      · skip
        have hNN : ¬ (1 ≤ n ∧ n ≤ 11) := by split at h6 <;> omega
        refine Ev.bipush (q := 50) dX12_stop_48 kb_m3 rfl ?_
        refine rI dX12_stop_50 rfl ?_
        refine ⟨?_, hF0⟩
        unfold q_stop
        rw [if_pos ⟨hLL, hFF⟩, if_neg hNN]
      · skip
        have hNN : 1 ≤ n ∧ n ≤ 11 := by split at h6 <;> omega
        obtain ⟨nn, rfl⟩ : ∃ nn : Nat, n = nn := ⟨n.toNat, by omega⟩
        refine Ev.aload_n (q := 39) dX12_stop_38 rfl rfl ?_
        refine Ev.iload_n (q := 40) dX12_stop_39 rfl rfl ?_
        refine Ev.iload_n (q := 41) dX12_stop_40 rfl rfl ?_
        refine Ev.iload_n (q := 42) dX12_stop_41 rfl rfl ?_
        refine cV3i (q := 45) (d' := d + 2) dX12_stop_42 mlX12_227 moX12_stopOf mvX12_stopOf k211 rfl rfl rfl (Nat.le_refl _) rfl rfl rfl (p_X12_stopOf ln fn nn (by omega) (by omega) (by omega) hI.law1) (fun r7 m7 e7 => ?_)
        obtain ⟨rfl, hfr⟩ := e7
        have hF1 := hF0.tr (hfr.mono (fun a k q => sQ_16 q))
        refine Ev.goto (q := 50) dX12_stop_45 (by decide) ?_
        refine rI dX12_stop_50 rfl ?_
        refine ⟨?_, hF1⟩
        unfold q_stop
        rw [if_pos ⟨hLL, hFF⟩, if_pos hNN]
        simp only [Int.toNat_natCast]
    · skip
      have hFF : ¬ (0 ≤ f ∧ f < M0 212 1) := by split at h4 <;> omega
      refine Ev.bipush (q := 25) dX12_stop_23 kb_m2 rfl ?_
      refine rI dX12_stop_25 rfl ?_
      refine ⟨?_, hF0⟩
      unfold q_stop
      rw [if_neg (fun z => hFF z.2)]
set_option maxRecDepth 4000 in
theorem p_X12_calls {Γ : Gm} {d : Nat} {m : Mem} (f : Int) (hI : HI (m 212)) : Ci Γ (d + 2) MX12_calls [rv 211, iv f] m (fun r m' => r = q_calls (m 212) f ∧ Fr sQ m m') := by
  refine Ci.of moX12_calls rfl rfl (fun hA hM => ?_)
  show Em Γ (d + 2) MX12_calls _ 0 [rv 211, iv f] [] m
  refine Ev.aload_n (q := 1) dX12_calls_0 rfl rfl ?_
  refine Ev.iconst (q := 2) dX12_calls_1 ki_0 rfl ?_
  refine pI (q := 5) dX12_calls_2 gfX12_1 k211 rfl rfl ?_
  obtain ⟨M0, hM0⟩ : ∃ M0, M0 = up m 211 0 0 := ⟨_, rfl⟩
  rw [← hM0]
  have hF0 : Fr sQ m M0 := by rw [hM0]; exact (Fr.rf _ _).up rfl
  have g0 : M0 212 = m 212 := hF0.row 212 (fun _ => rfl)
  rw [← g0] at hI ⊢
  have hF12 := hI.1
  have hL3 := hI.2.1
  have hP8 := hI.2.2.1
  refine Ev.aload_n (q := 6) dX12_calls_5 rfl rfl ?_
  refine Ev.iload_n (q := 7) dX12_calls_6 rfl rfl ?_
  refine Ev.i2l (q := 8) dX12_calls_7 rfl ?_
  refine cV1i (q := 11) (d' := d + 1) dX12_calls_8 mlX12_243 moX12_isFloor mvX12_isFloor k211 rfl rfl rfl (Nat.le_refl _) rfl rfl rfl (p_X12_isFloor f (by omega)) (fun r1 m1 e1 => ?_)
  obtain ⟨rfl, e1⟩ := e1
  obtain rfl := e1.symm
  refine Ev.if_eq (tgt := 26) (q := 14) dX12_calls_11 (by decide) rfl (fun h2 => ?_) (fun h2 => ?_)
  · skip
    have hFF : ¬ (0 ≤ f ∧ f < M0 212 1) := by split at h2 <;> omega
    refine Ev.bipush (q := 28) dX12_calls_26 kb_m2 rfl ?_
    refine rI dX12_calls_28 rfl ?_
    refine ⟨?_, hF0⟩
    unfold q_calls
    rw [if_neg hFF]
  · skip
    have hFF : 0 ≤ f ∧ f < M0 212 1 := by split at h2 <;> omega
    obtain ⟨fn, rfl⟩ : ∃ fn : Nat, f = fn := ⟨f.toNat, by omega⟩
    refine Ev.aload_n (q := 15) dX12_calls_14 rfl rfl ?_
    refine gR (q := 18) dX12_calls_15 gfX12_13 k211 r211_1 rfl rfl ?_
    refine Ev.bipush (q := 20) dX12_calls_18 kb_10 rfl ?_
    refine Ev.iload_n (q := 21) dX12_calls_20 rfl rfl ?_
    refine Ev.iadd (q := 22) dX12_calls_21 rfl ?_
    refine aI (q := 23) (k := 10 + fn) dX12_calls_22 k212 (by first | rfl | omega | (simp (disch := omega) only [w32_of]; omega)) (by omega) rfl ?_
    refine Ev.goto (q := 28) dX12_calls_23 (by decide) ?_
    refine rI dX12_calls_28 rfl ?_
    refine ⟨?_, hF0⟩
    unfold q_calls
    rw [if_pos hFF]
    simp only [Int.toNat_natCast]
set_option maxRecDepth 4000 in
theorem p_X12_stops {Γ : Gm} {d : Nat} {m : Mem} (l : Int) (hI : HI (m 212)) : Ci Γ (d + 2) MX12_stops [rv 211, iv l] m (fun r m' => r = q_stops (m 212) l ∧ Fr sQ m m') := by
  refine Ci.of moX12_stops rfl rfl (fun hA hM => ?_)
  show Em Γ (d + 2) MX12_stops _ 0 [rv 211, iv l] [] m
  refine Ev.aload_n (q := 1) dX12_stops_0 rfl rfl ?_
  refine Ev.iconst (q := 2) dX12_stops_1 ki_0 rfl ?_
  refine pI (q := 5) dX12_stops_2 gfX12_1 k211 rfl rfl ?_
  obtain ⟨M0, hM0⟩ : ∃ M0, M0 = up m 211 0 0 := ⟨_, rfl⟩
  rw [← hM0]
  have hF0 : Fr sQ m M0 := by rw [hM0]; exact (Fr.rf _ _).up rfl
  have g0 : M0 212 = m 212 := hF0.row 212 (fun _ => rfl)
  rw [← g0] at hI ⊢
  have hF12 := hI.1
  have hL3 := hI.2.1
  have hP8 := hI.2.2.1
  refine Ev.aload_n (q := 6) dX12_stops_5 rfl rfl ?_
  refine Ev.iload_n (q := 7) dX12_stops_6 rfl rfl ?_
  refine Ev.i2l (q := 8) dX12_stops_7 rfl ?_
  refine cV1i (q := 11) (d' := d + 1) dX12_stops_8 mlX12_230 moX12_isLift mvX12_isLift k211 rfl rfl rfl (Nat.le_refl _) rfl rfl rfl (p_X12_isLift l (by omega)) (fun r1 m1 e1 => ?_)
  obtain ⟨rfl, e1⟩ := e1
  obtain rfl := e1.symm
  refine Ev.if_eq (tgt := 29) (q := 14) dX12_stops_11 (by decide) rfl (fun h2 => ?_) (fun h2 => ?_)
  · skip
    have hLL : ¬ (0 ≤ l ∧ l < M0 212 2) := by split at h2 <;> omega
    refine Ev.bipush (q := 31) dX12_stops_29 kb_m2 rfl ?_
    refine rI dX12_stops_31 rfl ?_
    refine ⟨?_, hF0⟩
    unfold q_stops
    rw [if_neg hLL]
  · skip
    have hLL : 0 ≤ l ∧ l < M0 212 2 := by split at h2 <;> omega
    obtain ⟨ln, rfl⟩ : ∃ ln : Nat, l = ln := ⟨l.toNat, by omega⟩
    have hliftln := hI.lift (l := ln) (by omega)
    have e66ln : M0 212 (66 + ln) = ((litV (M0 212) ln : Nat) : Int) := by unfold litV; have := hliftln.2.1.1; omega
    have hlokln := hI.litOk (l := ln) (by omega)
    refine Ev.aload_n (q := 15) dX12_stops_14 rfl rfl ?_
    refine gR (q := 18) dX12_stops_15 gfX12_13 k211 r211_1 rfl rfl ?_
    refine Ev.bipush (q := 20) dX12_stops_18 kb_66 rfl ?_
    refine Ev.iload_n (q := 21) dX12_stops_20 rfl rfl ?_
    refine Ev.iadd (q := 22) dX12_stops_21 rfl ?_
    refine aI (q := 23) (k := 66 + ln) dX12_stops_22 k212 (by first | rfl | omega | (simp (disch := omega) only [w32_of]; omega)) (by omega) rfl ?_
    rw [e66ln]
    refine cS1i (q := 26) (d' := d + 1) dX12_stops_23 mlX12_224 moX12_bitsOf msX12_bitsOf rfl rfl (Nat.le_refl _) rfl rfl rfl (p_X12_bitsOf _ (hlokln.lt hI)) (fun r3 m3 e3 => ?_)
    obtain ⟨rfl, e3⟩ := e3
    obtain rfl := e3.symm
    refine Ev.goto (q := 31) dX12_stops_26 (by decide) ?_
    refine rI dX12_stops_31 rfl ?_
    refine ⟨?_, hF0⟩
    unfold q_stops
    rw [if_pos hLL]
    simp only [Int.toNat_natCast]
set_option maxRecDepth 4000 in
theorem p_X12_all {Γ : Gm} {d : Nat} {m : Mem} (l : Int) (hI : HI (m 212)) : Ci Γ (d + 6) MX12_all [rv 211, iv l] m (fun r m' => r = q_all (m 212) l ∧ Fr sQ m m') := by
  refine Ci.of moX12_all rfl rfl (fun hA hM => ?_)
  show Em Γ (d + 6) MX12_all _ 0 [rv 211, iv l] [] m
  refine Ev.aload_n (q := 1) dX12_all_0 rfl rfl ?_
  refine Ev.iconst (q := 2) dX12_all_1 ki_0 rfl ?_
  refine pI (q := 5) dX12_all_2 gfX12_1 k211 rfl rfl ?_
  obtain ⟨M0, hM0⟩ : ∃ M0, M0 = up m 211 0 0 := ⟨_, rfl⟩
  rw [← hM0]
  have hF0 : Fr sQ m M0 := by rw [hM0]; exact (Fr.rf _ _).up rfl
  have g0 : M0 212 = m 212 := hF0.row 212 (fun _ => rfl)
  rw [← g0] at hI ⊢
  have hF12 := hI.1
  have hL3 := hI.2.1
  have hP8 := hI.2.2.1
  refine Ev.aload_n (q := 6) dX12_all_5 rfl rfl ?_
  refine Ev.iload_n (q := 7) dX12_all_6 rfl rfl ?_
  refine Ev.i2l (q := 8) dX12_all_7 rfl ?_
  refine cV1i (q := 11) (d' := d + 5) dX12_all_8 mlX12_230 moX12_isLift mvX12_isLift k211 rfl rfl rfl (Nat.le_refl _) rfl rfl rfl (p_X12_isLift l (by omega)) (fun r1 m1 e1 => ?_)
  obtain ⟨rfl, e1⟩ := e1
  obtain rfl := e1.symm
  refine Ev.if_eq (tgt := 31) (q := 14) dX12_all_11 (by decide) rfl (fun h2 => ?_) (fun h2 => ?_)
  · skip
    have hLL : ¬ (0 ≤ l ∧ l < M0 212 2) := by split at h2 <;> omega
    refine Ev.ldc2 (q := 34) dX12_all_31 klX12_368 klvX12_368 rfl ?_
    refine rJ dX12_all_34 rfl ?_
    refine ⟨?_, hF0⟩
    unfold q_all
    rw [if_neg hLL]
  · skip
    have hLL : 0 ≤ l ∧ l < M0 212 2 := by split at h2 <;> omega
    obtain ⟨ln, rfl⟩ : ∃ ln : Nat, l = ln := ⟨l.toNat, by omega⟩
    have hliftln := hI.lift (l := ln) (by omega)
    have e66ln : M0 212 (66 + ln) = ((litV (M0 212) ln : Nat) : Int) := by unfold litV; have := hliftln.2.1.1; omega
    have hlokln := hI.litOk (l := ln) (by omega)
    refine Ev.aload_n (q := 15) dX12_all_14 rfl rfl ?_
    refine Ev.iload_n (q := 16) dX12_all_15 rfl rfl ?_
    refine Ev.aload_n (q := 17) dX12_all_16 rfl rfl ?_
    refine gR (q := 20) dX12_all_17 gfX12_13 k211 r211_1 rfl rfl ?_
    refine Ev.bipush (q := 22) dX12_all_20 kb_66 rfl ?_
    refine Ev.iload_n (q := 23) dX12_all_22 rfl rfl ?_
    refine Ev.iadd (q := 24) dX12_all_23 rfl ?_
    refine aI (q := 25) (k := 66 + ln) dX12_all_24 k212 (by first | rfl | omega | (simp (disch := omega) only [w32_of]; omega)) (by omega) rfl ?_
    rw [e66ln]
    refine cV2j (q := 28) (d' := d + 5) dX12_all_25 mlX12_364 moX12_sumBy mvX12_sumBy k211 rfl rfl rfl (Nat.le_refl _) rfl rfl rfl (p_X12_sumBy ln (litV (M0 212) ln) hI (by omega) hlokln) (fun r3 m3 e3 => ?_)
    obtain ⟨rfl, hfr⟩ := e3
    have hF1 := hF0.tr (hfr.mono (fun a k q => sQ_Be q))
    refine Ev.goto (q := 34) dX12_all_28 (by decide) ?_
    refine rJ dX12_all_34 rfl ?_
    refine ⟨?_, hF1⟩
    unfold q_all
    rw [if_pos hLL]
    simp only [Int.toNat_natCast]
set_option maxRecDepth 4000 in
theorem p_X12_latest {Γ : Gm} {d : Nat} {m : Mem} (l : Int) (hI : HI (m 212)) : Ci Γ (d + 6) MX12_latest [rv 211, iv l] m (fun r m' => r = q_latest (m 212) l ∧ Fr sQ m m') := by
  refine Ci.of moX12_latest rfl rfl (fun hA hM => ?_)
  show Em Γ (d + 6) MX12_latest _ 0 [rv 211, iv l] [] m
  refine Ev.aload_n (q := 1) dX12_latest_0 rfl rfl ?_
  refine Ev.iconst (q := 2) dX12_latest_1 ki_0 rfl ?_
  refine pI (q := 5) dX12_latest_2 gfX12_1 k211 rfl rfl ?_
  obtain ⟨M0, hM0⟩ : ∃ M0, M0 = up m 211 0 0 := ⟨_, rfl⟩
  rw [← hM0]
  have hF0 : Fr sQ m M0 := by rw [hM0]; exact (Fr.rf _ _).up rfl
  have g0 : M0 212 = m 212 := hF0.row 212 (fun _ => rfl)
  rw [← g0] at hI ⊢
  have hF12 := hI.1
  have hL3 := hI.2.1
  have hP8 := hI.2.2.1
  refine Ev.aload_n (q := 6) dX12_latest_5 rfl rfl ?_
  refine Ev.iload_n (q := 7) dX12_latest_6 rfl rfl ?_
  refine Ev.i2l (q := 8) dX12_latest_7 rfl ?_
  refine cV1i (q := 11) (d' := d + 5) dX12_latest_8 mlX12_230 moX12_isLift mvX12_isLift k211 rfl rfl rfl (Nat.le_refl _) rfl rfl rfl (p_X12_isLift l (by omega)) (fun r1 m1 e1 => ?_)
  obtain ⟨rfl, e1⟩ := e1
  obtain rfl := e1.symm
  refine Ev.if_eq (tgt := 31) (q := 14) dX12_latest_11 (by decide) rfl (fun h2 => ?_) (fun h2 => ?_)
  · skip
    have hLL : ¬ (0 ≤ l ∧ l < M0 212 2) := by split at h2 <;> omega
    refine Ev.bipush (q := 33) dX12_latest_31 kb_m2 rfl ?_
    refine rI dX12_latest_33 rfl ?_
    refine ⟨?_, hF0⟩
    unfold q_latest
    rw [if_neg hLL]
  · skip
    have hLL : 0 ≤ l ∧ l < M0 212 2 := by split at h2 <;> omega
    obtain ⟨ln, rfl⟩ : ∃ ln : Nat, l = ln := ⟨l.toNat, by omega⟩
    have hliftln := hI.lift (l := ln) (by omega)
    have e66ln : M0 212 (66 + ln) = ((litV (M0 212) ln : Nat) : Int) := by unfold litV; have := hliftln.2.1.1; omega
    have hlokln := hI.litOk (l := ln) (by omega)
    refine Ev.aload_n (q := 15) dX12_latest_14 rfl rfl ?_
    refine Ev.iload_n (q := 16) dX12_latest_15 rfl rfl ?_
    refine Ev.aload_n (q := 17) dX12_latest_16 rfl rfl ?_
    refine gR (q := 20) dX12_latest_17 gfX12_13 k211 r211_1 rfl rfl ?_
    refine Ev.bipush (q := 22) dX12_latest_20 kb_66 rfl ?_
    refine Ev.iload_n (q := 23) dX12_latest_22 rfl rfl ?_
    refine Ev.iadd (q := 24) dX12_latest_23 rfl ?_
    refine aI (q := 25) (k := 66 + ln) dX12_latest_24 k212 (by first | rfl | omega | (simp (disch := omega) only [w32_of]; omega)) (by omega) rfl ?_
    rw [e66ln]
    refine cV2i (q := 28) (d' := d + 5) dX12_latest_25 mlX12_370 moX12_latestBy mvX12_latestBy k211 rfl rfl rfl (Nat.le_refl _) rfl rfl rfl (p_X12_latestBy ln (litV (M0 212) ln) hI (by omega) hlokln) (fun r3 m3 e3 => ?_)
    obtain ⟨rfl, hfr⟩ := e3
    have hF1 := hF0.tr (hfr.mono (fun a k q => sQ_Be q))
    refine Ev.goto (q := 33) dX12_latest_28 (by decide) ?_
    refine rI dX12_latest_33 rfl ?_
    refine ⟨?_, hF1⟩
    unfold q_latest
    rw [if_pos hLL]
    simp only [Int.toNat_natCast]
set_option maxRecDepth 4000 in
theorem p_X12_comes {Γ : Gm} {d : Nat} {m : Mem} (l f : Int) (hI : HI (m 212)) : Ci Γ (d + 5) MX12_comes [rv 211, iv l, iv f] m (fun r m' => r = q_comes (m 212) l f ∧ Fr sQ m m') := by
  refine Ci.of moX12_comes rfl rfl (fun hA hM => ?_)
  show Em Γ (d + 5) MX12_comes _ 0 [rv 211, iv l, iv f] [] m
  refine Ev.aload_n (q := 1) dX12_comes_0 rfl rfl ?_
  refine Ev.iconst (q := 2) dX12_comes_1 ki_0 rfl ?_
  refine pI (q := 5) dX12_comes_2 gfX12_1 k211 rfl rfl ?_
  obtain ⟨M0, hM0⟩ : ∃ M0, M0 = up m 211 0 0 := ⟨_, rfl⟩
  rw [← hM0]
  have hF0 : Fr sQ m M0 := by rw [hM0]; exact (Fr.rf _ _).up rfl
  have g0 : M0 212 = m 212 := hF0.row 212 (fun _ => rfl)
  rw [← g0] at hI ⊢
  have hF12 := hI.1
  have hL3 := hI.2.1
  have hP8 := hI.2.2.1
  refine Ev.aload_n (q := 6) dX12_comes_5 rfl rfl ?_
  refine Ev.iload_n (q := 7) dX12_comes_6 rfl rfl ?_
  refine Ev.i2l (q := 8) dX12_comes_7 rfl ?_
  refine cV1i (q := 11) (d' := d + 4) dX12_comes_8 mlX12_230 moX12_isLift mvX12_isLift k211 rfl rfl rfl (Nat.le_refl _) rfl rfl rfl (p_X12_isLift l (by omega)) (fun r1 m1 e1 => ?_)
  obtain ⟨rfl, e1⟩ := e1
  obtain rfl := e1.symm
  refine Ev.if_eq (tgt := 23) (q := 14) dX12_comes_11 (by decide) rfl (fun h2 => ?_) (fun h2 => ?_)
  · skip
    have hLL : ¬ (0 ≤ l ∧ l < M0 212 2) := by split at h2 <;> omega
    refine Ev.bipush (q := 25) dX12_comes_23 kb_m2 rfl ?_
    refine rI dX12_comes_25 rfl ?_
    refine ⟨?_, hF0⟩
    unfold q_comes
    rw [if_neg (fun z => hLL z.1)]
  · skip
    have hLL : 0 ≤ l ∧ l < M0 212 2 := by split at h2 <;> omega
    obtain ⟨ln, rfl⟩ : ∃ ln : Nat, l = ln := ⟨l.toNat, by omega⟩
    have hliftln := hI.lift (l := ln) (by omega)
    have e66ln : M0 212 (66 + ln) = ((litV (M0 212) ln : Nat) : Int) := by unfold litV; have := hliftln.2.1.1; omega
    have hlokln := hI.litOk (l := ln) (by omega)
    refine Ev.aload_n (q := 15) dX12_comes_14 rfl rfl ?_
    refine Ev.iload_n (q := 16) dX12_comes_15 rfl rfl ?_
    refine Ev.i2l (q := 17) dX12_comes_16 rfl ?_
    refine cV1i (q := 20) (d' := d + 4) dX12_comes_17 mlX12_243 moX12_isFloor mvX12_isFloor k211 rfl rfl rfl (Nat.le_refl _) rfl rfl rfl (p_X12_isFloor f (by omega)) (fun r3 m3 e3 => ?_)
    obtain ⟨rfl, e3⟩ := e3
    obtain rfl := e3.symm
    refine Ev.if_ne (tgt := 26) (q := 23) dX12_comes_20 (by decide) rfl (fun h4 => ?_) (fun h4 => ?_)
    · skip
      have hFF : 0 ≤ f ∧ f < M0 212 1 := by split at h4 <;> omega
      obtain ⟨fn, rfl⟩ : ∃ fn : Nat, f = fn := ⟨f.toNat, by omega⟩
      refine Ev.aload_n (q := 27) dX12_comes_26 rfl rfl ?_
      refine Ev.iload_n (q := 28) dX12_comes_27 rfl rfl ?_
      refine cV1v (q := 31) (d' := d + 4) dX12_comes_28 mlX12_234 moX12_loads mvX12_loads k211 rfl rfl rfl (Nat.le_refl _) rfl rfl rfl (p_X12_loads ln (by omega) hliftln.1.1 hliftln.2.1.1) (fun r5 m5 e5 => ?_)
      obtain ⟨hT0, hfr5⟩ := e5
      have hF1 := hF0.tr (hfr5.mono (fun a k q => sQ_T q))
      have g1 : m5 212 = M0 212 := hfr5.row 212 (fun _ => rfl)
      generalize m5 = M1 at *
      refine Ev.aload_n (q := 32) dX12_comes_31 rfl rfl ?_
      refine Ev.iload_n (q := 33) dX12_comes_32 rfl rfl ?_
      have hTc : TMc M1 ln ((M0 212 (60 + ln)).toNat, M0 212 (63 + ln), (M0 212 (66 + ln)).toNat, decide (M0 212 (69 + ln) = 1), M1 211 22) := ⟨hT0, rfl⟩
      refine cV1i (q := 36) (d' := d + 4) dX12_comes_33 mlX12_352 moX12_ridesTo mvX12_ridesTo k211 rfl rfl rfl (Nat.le_refl _) rfl rfl rfl (p_X12_ridesTo ln (M0 212 1).toNat fn _ _ _ _ _ (by rw [g1]; omega) (by omega) (by rw [g1]; exact hI.law1) (by omega) hTc (hI.liftOk (by omega) hlokln.1 hlokln.2)) (fun r6 m6 e6 => ?_)
      obtain ⟨rfl, -, hfr⟩ := e6
      have hF2 := hF1.tr (hfr.mono (fun a k q => sQ_T q))
      refine rI dX12_comes_36 rfl ?_
      refine ⟨?_, hF2⟩
      unfold q_comes
      rw [if_pos ⟨hLL, hFF⟩, g1]
      simp only [Int.toNat_natCast]
      unfold cmV
      rw [rto_came _ _ _ _ (liftT (M0 212) ln) (M1 211 22)]
      rfl
    · skip
      have hFF : ¬ (0 ≤ f ∧ f < M0 212 1) := by split at h4 <;> omega
      refine Ev.bipush (q := 25) dX12_comes_23 kb_m2 rfl ?_
      refine rI dX12_comes_25 rfl ?_
      refine ⟨?_, hF0⟩
      unfold q_comes
      rw [if_neg (fun z => hFF z.2)]
set_option maxRecDepth 4000 in
theorem p_X12_best {Γ : Gm} {d : Nat} {m : Mem} (p what : Int) (hI : HI (m 212)) : Ci Γ (d + 6) MX12_best [rv 211, iv p, iv what] m (fun r m' => r = q_best (m 212) p what ∧ Fr sQ m m') := by
  refine Ci.of moX12_best rfl rfl (fun hA hM => ?_)
  show Em Γ (d + 6) MX12_best _ 0 [rv 211, iv p, iv what, uv] [] m
  refine Ev.aload_n (q := 1) dX12_best_0 rfl rfl ?_
  refine Ev.iconst (q := 2) dX12_best_1 ki_0 rfl ?_
  refine pI (q := 5) dX12_best_2 gfX12_1 k211 rfl rfl ?_
  obtain ⟨M0, hM0⟩ : ∃ M0, M0 = up m 211 0 0 := ⟨_, rfl⟩
  rw [← hM0]
  have hF0 : Fr sQ m M0 := by rw [hM0]; exact (Fr.rf _ _).up rfl
  have g0 : M0 212 = m 212 := hF0.row 212 (fun _ => rfl)
  rw [← g0] at hI ⊢
  have hF12 := hI.1
  have hL3 := hI.2.1
  have hP8 := hI.2.2.1
  refine Ev.aload_n (q := 6) dX12_best_5 rfl rfl ?_
  refine Ev.iload_n (q := 7) dX12_best_6 rfl rfl ?_
  refine Ev.i2l (q := 8) dX12_best_7 rfl ?_
  refine cV1i (q := 11) (d' := d + 5) dX12_best_8 mlX12_240 moX12_isPerson mvX12_isPerson k211 rfl rfl rfl (Nat.le_refl _) rfl rfl rfl (p_X12_isPerson p (by omega)) (fun r1 m1 e1 => ?_)
  obtain ⟨rfl, e1⟩ := e1
  obtain rfl := e1.symm
  refine Ev.if_eq (tgt := 24) (q := 14) dX12_best_11 (by decide) rfl (fun h2 => ?_) (fun h2 => ?_)
  · skip
    have hPP : ¬ (0 ≤ p ∧ p < M0 212 3) := by split at h2 <;> omega
    refine Ev.bipush (q := 26) dX12_best_24 kb_m2 rfl ?_
    refine rI dX12_best_26 rfl ?_
    refine ⟨?_, hF0⟩
    unfold q_best
    rw [if_neg (fun z => hPP z.1)]
  · skip
    have hPP : 0 ≤ p ∧ p < M0 212 3 := by split at h2 <;> omega
    obtain ⟨pn, rfl⟩ : ∃ pn : Nat, p = pn := ⟨p.toNat, by omega⟩
    have hperspn := hI.pers (p := pn) (by omega)
    refine Ev.iload_n (q := 15) dX12_best_14 rfl rfl ?_
    refine Ev.i2l (q := 16) dX12_best_15 rfl ?_
    refine Ev.lconst (q := 17) dX12_best_16 kj_0 rfl ?_
    refine Ev.lconst (q := 18) dX12_best_17 kj_1 rfl ?_
    refine cS3i (q := 21) (d' := d + 5) dX12_best_18 mlX12_118 moX12_within msX12_within rfl rfl (Nat.le_refl _) rfl rfl rfl (p_X12_within _ _ _) (fun r3 m3 e3 => ?_)
    obtain ⟨rfl, e3⟩ := e3
    obtain rfl := e3.symm
    refine Ev.if_ne (tgt := 27) (q := 24) dX12_best_21 (by decide) rfl (fun h4 => ?_) (fun h4 => ?_)
    · skip
      have hWW : 0 ≤ what ∧ what ≤ 1 := by split at h4 <;> omega
      refine Ev.aload_n (q := 28) dX12_best_27 rfl rfl ?_
      refine Ev.iload_n (q := 29) dX12_best_28 rfl rfl ?_
      refine cV1i (q := 32) (d' := d + 5) dX12_best_29 mlX12_361 moX12_bestNow mvX12_bestNow k211 rfl rfl rfl (Nat.le_refl _) rfl rfl rfl (p_X12_bestNow pn hI (by omega)) (fun r5 m5 e5 => ?_)
      obtain ⟨rfl, e27, hfr⟩ := e5
      have hF1 := hF0.tr (hfr.mono (fun a k q => sQ_Be q))
      refine istore_n_3 (q := 33) dX12_best_32 rfl rfl rfl ?_
      refine Ev.iload_n (q := 34) dX12_best_33 rfl rfl ?_
      refine Ev.if_ne (tgt := 41) (q := 37) dX12_best_34 (by decide) rfl (fun h6 => ?_) (fun h6 => ?_)
      · skip
        refine Ev.aload_n (q := 42) dX12_best_41 rfl rfl ?_
        refine gI (q := 45) dX12_best_42 gfX12_355 k211 rfl rfl ?_
        refine rI dX12_best_45 rfl ?_
        refine ⟨?_, hF1⟩
        unfold q_best
        rw [if_pos ⟨hPP, hWW⟩, if_neg (by omega), e27]
        simp only [Int.toNat_natCast]
      · skip
        refine Ev.iload_n (q := 38) dX12_best_37 rfl rfl ?_
        refine Ev.goto (q := 45) dX12_best_38 (by decide) ?_
        refine rI dX12_best_45 rfl ?_
        refine ⟨?_, hF1⟩
        unfold q_best
        rw [if_pos ⟨hPP, hWW⟩, if_pos (by omega)]
        simp only [Int.toNat_natCast]
    · skip
      have hWW : ¬ (0 ≤ what ∧ what ≤ 1) := by split at h4 <;> omega
      refine Ev.bipush (q := 26) dX12_best_24 kb_m2 rfl ?_
      refine rI dX12_best_26 rfl ?_
      refine ⟨?_, hF0⟩
      unfold q_best
      rw [if_neg (fun z => hWW z.2)]
set_option maxRecDepth 4000 in
theorem p_X12_waits {Γ : Gm} {d : Nat} {m : Mem} (p l : Int) (hI : HI (m 212)) : Ci Γ (d + 6) MX12_waits [rv 211, iv p, iv l] m (fun r m' => r = q_waits (m 212) p l ∧ Fr sQ m m') := by
  refine Ci.of moX12_waits rfl rfl (fun hA hM => ?_)
  show Em Γ (d + 6) MX12_waits _ 0 [rv 211, iv p, iv l] [] m
  refine Ev.aload_n (q := 1) dX12_waits_0 rfl rfl ?_
  refine Ev.iconst (q := 2) dX12_waits_1 ki_0 rfl ?_
  refine pI (q := 5) dX12_waits_2 gfX12_1 k211 rfl rfl ?_
  obtain ⟨M0, hM0⟩ : ∃ M0, M0 = up m 211 0 0 := ⟨_, rfl⟩
  rw [← hM0]
  have hF0 : Fr sQ m M0 := by rw [hM0]; exact (Fr.rf _ _).up rfl
  have g0 : M0 212 = m 212 := hF0.row 212 (fun _ => rfl)
  rw [← g0] at hI ⊢
  have hF12 := hI.1
  have hL3 := hI.2.1
  have hP8 := hI.2.2.1
  refine Ev.aload_n (q := 6) dX12_waits_5 rfl rfl ?_
  refine Ev.iload_n (q := 7) dX12_waits_6 rfl rfl ?_
  refine Ev.i2l (q := 8) dX12_waits_7 rfl ?_
  refine cV1i (q := 11) (d' := d + 5) dX12_waits_8 mlX12_240 moX12_isPerson mvX12_isPerson k211 rfl rfl rfl (Nat.le_refl _) rfl rfl rfl (p_X12_isPerson p (by omega)) (fun r1 m1 e1 => ?_)
  obtain ⟨rfl, e1⟩ := e1
  obtain rfl := e1.symm
  refine Ev.if_eq (tgt := 23) (q := 14) dX12_waits_11 (by decide) rfl (fun h2 => ?_) (fun h2 => ?_)
  · skip
    have hPP : ¬ (0 ≤ p ∧ p < M0 212 3) := by split at h2 <;> omega
    refine Ev.bipush (q := 25) dX12_waits_23 kb_m2 rfl ?_
    refine rI dX12_waits_25 rfl ?_
    refine ⟨?_, hF0⟩
    unfold q_waits
    rw [if_neg (fun z => hPP z.1)]
  · skip
    have hPP : 0 ≤ p ∧ p < M0 212 3 := by split at h2 <;> omega
    obtain ⟨pn, rfl⟩ : ∃ pn : Nat, p = pn := ⟨p.toNat, by omega⟩
    have hperspn := hI.pers (p := pn) (by omega)
    refine Ev.aload_n (q := 15) dX12_waits_14 rfl rfl ?_
    refine Ev.iload_n (q := 16) dX12_waits_15 rfl rfl ?_
    refine Ev.i2l (q := 17) dX12_waits_16 rfl ?_
    refine cV1i (q := 20) (d' := d + 5) dX12_waits_17 mlX12_230 moX12_isLift mvX12_isLift k211 rfl rfl rfl (Nat.le_refl _) rfl rfl rfl (p_X12_isLift l (by omega)) (fun r3 m3 e3 => ?_)
    obtain ⟨rfl, e3⟩ := e3
    obtain rfl := e3.symm
    refine Ev.if_ne (tgt := 26) (q := 23) dX12_waits_20 (by decide) rfl (fun h4 => ?_) (fun h4 => ?_)
    · skip
      have hLL : 0 ≤ l ∧ l < M0 212 2 := by split at h4 <;> omega
      obtain ⟨ln, rfl⟩ : ∃ ln : Nat, l = ln := ⟨l.toNat, by omega⟩
      have hliftln := hI.lift (l := ln) (by omega)
      have e66ln : M0 212 (66 + ln) = ((litV (M0 212) ln : Nat) : Int) := by unfold litV; have := hliftln.2.1.1; omega
      have hlokln := hI.litOk (l := ln) (by omega)
      refine Ev.aload_n (q := 27) dX12_waits_26 rfl rfl ?_
      refine gR (q := 30) dX12_waits_27 gfX12_13 k211 r211_1 rfl rfl ?_
      refine Ev.bipush (q := 32) dX12_waits_30 kb_88 rfl ?_
      refine Ev.iload_n (q := 33) dX12_waits_32 rfl rfl ?_
      refine Ev.iadd (q := 34) dX12_waits_33 rfl ?_
      refine aI (q := 35) (k := 88 + pn) dX12_waits_34 k212 (by first | rfl | omega | (simp (disch := omega) only [w32_of]; omega)) (by omega) rfl ?_
      refine Ev.iconst (q := 36) dX12_waits_35 ki_m1 rfl ?_
      refine Ev.icmp_ne (tgt := 48) (q := 39) dX12_waits_36 (by decide) rfl (fun h5 => ?_) (fun h5 => ?_)
      · skip
        refine Ev.bipush (q := 50) dX12_waits_48 kb_m5 rfl ?_
        refine rI dX12_waits_50 rfl ?_
        refine ⟨?_, hF0⟩
        unfold q_waits
        rw [if_pos ⟨hPP, hLL⟩]
        simp only [Int.toNat_natCast]
        rw [if_neg (by assumption)]
      · skip
        refine Ev.aload_n (q := 40) dX12_waits_39 rfl rfl ?_
        refine Ev.iload_n (q := 41) dX12_waits_40 rfl rfl ?_
        refine Ev.iload_n (q := 42) dX12_waits_41 rfl rfl ?_
        refine cV2i (q := 45) (d' := d + 5) dX12_waits_42 mlX12_373 moX12_waitsFor mvX12_waitsFor k211 rfl rfl rfl (Nat.le_refl _) rfl rfl rfl (p_X12_waitsFor pn ln hI (by omega) (by omega)) (fun r6 m6 e6 => ?_)
        obtain ⟨rfl, hfr⟩ := e6
        have hF1 := hF0.tr (hfr.mono (fun a k q => sQ_T q))
        refine Ev.goto (q := 50) dX12_waits_45 (by decide) ?_
        refine rI dX12_waits_50 rfl ?_
        refine ⟨?_, hF1⟩
        unfold q_waits
        rw [if_pos ⟨hPP, hLL⟩]
        simp only [Int.toNat_natCast]
        rw [if_pos (by assumption)]
    · skip
      have hLL : ¬ (0 ≤ l ∧ l < M0 212 2) := by split at h4 <;> omega
      refine Ev.bipush (q := 25) dX12_waits_23 kb_m2 rfl ?_
      refine rI dX12_waits_25 rfl ?_
      refine ⟨?_, hF0⟩
      unfold q_waits
      rw [if_neg (fun z => hLL z.2)]
