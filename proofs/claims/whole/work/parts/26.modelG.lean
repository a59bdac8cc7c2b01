/-! ===== the reference: best, of one and of all ===== -/
theorem HI.law0 {g : Nat → Int} (h : HI g) : LawOk g 0 := h.2.2.2.1
theorem HI.law1 {g : Nat → Int} (h : HI g) : LawOk g 1 := h.2.2.2.2.1
theorem HI.lift {g : Nat → Int} (h : HI g) {l : Nat} (hl : (l : Int) < g 2) : (0 ≤ g (60 + l) ∧ g (60 + l) < g 1) ∧ (0 ≤ g (66 + l) ∧ (g (66 + l)).toNat < 2 ^ (g 1).toNat ∧ (g (66 + l)).toNat.testBit (g (60 + l)).toNat = false) ∧ (g (69 + l) = 0 ∨ g (69 + l) = 1) ∧ (1 ≤ g (22 + l) ∧ g (22 + l) ≤ 60) ∧ (0 ≤ g (25 + l) ∧ g (25 + l) ≤ 99) := h.2.2.2.2.2.1 l hl
theorem HI.pers {g : Nat → Int} (h : HI g) {p : Nat} (hp : (p : Int) < g 3) : (0 ≤ g (28 + p) ∧ g (28 + p) < g 1) ∧ (0 ≤ g (36 + p) ∧ g (36 + p) ≤ 99) ∧ (0 ≤ g (44 + p) ∧ g (44 + p) ≤ 99) ∧ (1 ≤ g (52 + p) ∧ g (52 + p) ≤ 99) ∧ (0 ≤ g (72 + p) ∧ g (72 + p) < g 1) ∧ (g (88 + p) = -1 ∨ (0 ≤ g (88 + p) ∧ g (88 + p) < g 2 ∧ g (72 + p) = g (60 + (g (88 + p)).toNat))) := h.2.2.2.2.2.2.1 p hp
theorem HI.liftOk {g : Nat → Int} (h : HI g) {l : Nat} (hl : (l : Int) < g 2) {s : Nat} (hs : s < 2 ^ (g 1).toNat) (hb : s.testBit (g (60 + l)).toNat = false) {tt : Int} {u : Bool} {c : Int} : tOk2 (g 1).toNat ((g (60 + l)).toNat, tt, s, u, c) := by
  have h1 := (h.lift hl).1
  have h2 := h.1
  exact ⟨⟨by omega, by show (g (60 + l)).toNat < (g 1).toNat; omega, hs⟩, hb⟩
theorem bstL_came (sp : Int) (st : Nat → Nat → Int) (ft : Nat → Int) (n : Nat) (t : Tr) (c' : Int) (b : Int × Int) : bstL sp st ft n t b = bstL sp st ft n (t.1, t.2.1, t.2.2.1, t.2.2.2.1, c') b := by
  cases n with
  | zero => rfl
  | succ n => rfl
theorem pop_own {s h : Nat} (hb : s.testBit h = false) (hh : h < 12) : pop s < 12 := by
  have key : ∀ n, h < n → popN s n < n := by
    intro n
    induction n with
    | zero => intro q; omega
    | succ n ih =>
      intro q
      unfold popN
      by_cases e : h = n
      · subst e
        have := popN_le s h
        rw [hb]
        simp only [Bool.false_eq_true, if_false]
        omega
      · have := ih (by omega)
        split <;> omega
  exact key 12 hh
set_option maxRecDepth 4000 in
theorem p_X12_bestBy {Γ : Gm} {d : Nat} {m : Mem}  (p lit : Nat) (hI : HI (m 212)) (hp : (p : Int) < m 212 3) (hlit : lit < 2 ^ (m 212 1).toNat) (hown : m 212 (88 + p) ≠ -1 → lit.testBit (m 212 (60 + (m 212 (88 + p)).toNat)).toNat = false) : Ci Γ (d + 4) MX12_bestBy [rv 211, iv p, iv lit] m (fun r m' => r = (bestV (m 212) p lit).1 ∧ m' 211 27 = (bestV (m 212) p lit).2 ∧ Fr sBe m m') := by
  refine Ci.of moX12_bestBy rfl rfl (fun hA hM => ?_)
  show Em Γ (d + 4) MX12_bestBy _ 0 [rv 211, iv p, iv lit, uv, uv, uv] [] m
  obtain ⟨⟨p1, p2⟩, ⟨p3, p4⟩, ⟨p5, p6⟩, ⟨p7, p8⟩, ⟨p9, p10⟩, pin⟩ := hI.pers hp
  have hF := hI.1
  have hL3 := hI.2.1
  have hP8 := hI.2.2.1
  obtain ⟨on, hon⟩ : ∃ on : Nat, m 212 (72 + p) = on := ⟨(m 212 (72 + p)).toNat, by omega⟩
  obtain ⟨hm, hhm⟩ : ∃ hm : Nat, m 212 (28 + p) = hm := ⟨(m 212 (28 + p)).toNat, by omega⟩
  obtain ⟨F, hFF⟩ : ∃ F : Nat, m 212 1 = F := ⟨(m 212 1).toNat, by omega⟩
  refine Ev.aload_n (q := 1) dX12_bestBy_0 rfl rfl ?_
  refine Ev.iconst (q := 2) dX12_bestBy_1 ki_m1 rfl ?_
  refine pI (q := 5) dX12_bestBy_2 gfX12_355 k211 rfl rfl ?_
  obtain ⟨M0, hM0⟩ : ∃ M0, M0 = up m 211 27 (-1) := ⟨_, rfl⟩
  rw [← hM0]
  have g0 : M0 212 = m 212 := by rw [hM0]; exact up_na _ _ (by decide)
  have hF0 : Fr sBe m M0 := by rw [hM0]; exact (Fr.rf _ _).up rfl
  refine Ev.aload_n (q := 6) dX12_bestBy_5 rfl rfl ?_
  refine gR (q := 9) dX12_bestBy_6 gfX12_13 k211 r211_1 rfl rfl ?_
  refine Ev.bipush (q := 11) dX12_bestBy_9 kb_80 rfl ?_
  refine Ev.iload_n (q := 12) dX12_bestBy_11 rfl rfl ?_
  refine Ev.iadd (q := 13) dX12_bestBy_12 rfl ?_
  refine aI (q := 14) (k := 80 + p) dX12_bestBy_13 k212 (by first | rfl | omega | (simp (disch := omega) only [w32_of]; omega)) (by omega) rfl ?_
  refine Ev.aload_n (q := 15) dX12_bestBy_14 rfl rfl ?_
  refine Ev.iload_n (q := 16) dX12_bestBy_15 rfl rfl ?_
  refine Ev.aload_n (q := 17) dX12_bestBy_16 rfl rfl ?_
  refine gR (q := 20) dX12_bestBy_17 gfX12_13 k211 r211_1 rfl rfl ?_
  refine Ev.bipush (q := 22) dX12_bestBy_20 kb_72 rfl ?_
  refine Ev.iload_n (q := 23) dX12_bestBy_22 rfl rfl ?_
  refine Ev.iadd (q := 24) dX12_bestBy_23 rfl ?_
  refine aI (q := 25) (k := 72 + p) dX12_bestBy_24 k212 (by first | rfl | omega | (simp (disch := omega) only [w32_of]; omega)) (by omega) rfl ?_
  refine Ev.aload_n (q := 26) dX12_bestBy_25 rfl rfl ?_
  refine gR (q := 29) dX12_bestBy_26 gfX12_13 k211 r211_1 rfl rfl ?_
  refine Ev.bipush (q := 31) dX12_bestBy_29 kb_28 rfl ?_
  refine Ev.iload_n (q := 32) dX12_bestBy_31 rfl rfl ?_
  refine Ev.iadd (q := 33) dX12_bestBy_32 rfl ?_
  refine aI (q := 34) (k := 28 + p) dX12_bestBy_33 k212 (by first | rfl | omega | (simp (disch := omega) only [w32_of]; omega)) (by omega) rfl ?_
  rw [g0, hon, hhm]
  refine cV3i (q := 37) (d' := d + 3) dX12_bestBy_34 mlX12_246 moX12_footOf mvX12_footOf k211 rfl rfl rfl (Nat.le_refl _) rfl rfl rfl (p_X12_footOf p on hm (by omega) (by omega) (by omega) (by rw [g0]; exact hI.law0) (by rw [g0]; exact ⟨p3, p4⟩) (by rw [g0]; exact ⟨p5, p6⟩)) (fun r1 m1 e1 => ?_)
  obtain ⟨rfl, hfr⟩ := e1
  rw [g0]
  have hF1 := hF0.tr (hfr.mono (fun a k q => sT_16 (sBe_T q)))
  generalize m1 = M1 at *
  have g1 : M1 212 = m 212 := by rw [hfr.row 212 (fun _ => rfl)]; exact g0
  have o1 : M1 211 27 = -1 := by rw [hfr 211 27 rfl, hM0]; exact up_eq _ _ _ _
  refine Ev.iadd (q := 38) dX12_bestBy_37 rfl ?_
  refine istore_n_3 (q := 39) dX12_bestBy_38 rfl rfl rfl ?_
  refine Ev.aload_n (q := 40) dX12_bestBy_39 rfl rfl ?_
  refine gR (q := 43) dX12_bestBy_40 gfX12_13 k211 r211_1 rfl rfl ?_
  refine Ev.bipush (q := 45) dX12_bestBy_43 kb_88 rfl ?_
  refine Ev.iload_n (q := 46) dX12_bestBy_45 rfl rfl ?_
  refine Ev.iadd (q := 47) dX12_bestBy_46 rfl ?_
  refine aI (q := 48) (k := 88 + p) dX12_bestBy_47 k212 (by first | rfl | omega | (simp (disch := omega) only [w32_of]; omega)) (by omega) rfl ?_
  refine Ev.iconst (q := 49) dX12_bestBy_48 ki_m1 rfl ?_
  rw [g1]
  refine Ev.icmp_ne (tgt := 54) (q := 52) dX12_bestBy_49 (by decide) rfl (fun h2 => ?_) (fun h2 => ?_)
  · skip
    obtain ⟨p11, p12, p13⟩ := pin.resolve_left (by assumption)
    have hb9 := hown (by assumption)
    obtain ⟨l, hll⟩ : ∃ l : Nat, m 212 (88 + p) = l := ⟨(m 212 (88 + p)).toNat, by omega⟩
    have hl3 : l < 3 := by omega
    have hlift := hI.lift (l := l) (by omega)
    refine Ev.aload_n (q := 55) dX12_bestBy_54 rfl rfl ?_
    refine Ev.aload_n (q := 56) dX12_bestBy_55 rfl rfl ?_
    refine gR (q := 59) dX12_bestBy_56 gfX12_13 k211 r211_1 rfl rfl ?_
    refine Ev.bipush (q := 61) dX12_bestBy_59 kb_88 rfl ?_
    refine Ev.iload_n (q := 62) dX12_bestBy_61 rfl rfl ?_
    refine Ev.iadd (q := 63) dX12_bestBy_62 rfl ?_
    refine aI (q := 64) (k := 88 + p) dX12_bestBy_63 k212 (by first | rfl | omega | (simp (disch := omega) only [w32_of]; omega)) (by omega) rfl ?_
    rw [g1, hll]
    refine cV1v (q := 67) (d' := d + 3) dX12_bestBy_64 mlX12_234 moX12_loads mvX12_loads k211 rfl rfl rfl (Nat.le_refl _) rfl rfl rfl (p_X12_loads l hl3 (by rw [g1]; exact hlift.1.1) (by rw [g1]; exact hlift.2.1.1)) (fun r3 m3 e3 => ?_)
    obtain ⟨hT, hfr2⟩ := e3
    rw [g1] at hT
    have hF2 := hF1.tr (hfr2.mono (fun a k q => sBe_T q))
    generalize m3 = M2 at *
    have g2 : M2 212 = m 212 := by rw [hfr2.row 212 (fun _ => rfl)]; exact g1
    refine Ev.aload_n (q := 68) dX12_bestBy_67 rfl rfl ?_
    refine Ev.iload_n (q := 69) dX12_bestBy_68 rfl rfl ?_
    refine pI (q := 72) dX12_bestBy_69 gfX12_200 k211 rfl rfl ?_
    skip
    refine Ev.aload_n (q := 73) dX12_bestBy_72 rfl rfl ?_
    refine Ev.aload_n (q := 74) dX12_bestBy_73 rfl rfl ?_
    refine gI (q := 77) dX12_bestBy_74 gfX12_194 k211 rfl rfl ?_
    rw [up_k _ _ (by decide), hT.2.1]
    refine pI (q := 80) dX12_bestBy_77 gfX12_355 k211 rfl rfl ?_
    have e12 : (12 : Nat) = 12 := rfl
    have hkk := l_bestBy (Γ := Γ) (d := d) (m0 := m) (lit : Int) p l F hm (by omega) hl3 hFF hhm (by omega) hI.law0 hI.law1 ⟨p3, p4⟩ ⟨p5, p6⟩ 12 (m 212 (60 + l)).toNat (m 212 (63 + l)) lit (decide (m 212 (69 + l) = 1)) (M2 211 22) (w32 (m 212 (80 + p) + footV (m 212) p on hm)) ((m 212 (60 + l)).toNat : Int) uv uv (up (up M2 211 21 (lit : Int)) 211 27 ((m 212 (60 + l)).toNat : Int)) ?_ ((hF2.up rfl).up rfl) (by rw [up_na _ _ (by decide), up_na _ _ (by decide)]; exact g2) (up_eq _ _ _ _) ?_ ?_
    · refine Ev.imp (fun v g' m' hq => ⟨hq.1, ?_⟩) hkk
      obtain ⟨-, q1, q2, q3⟩ := hq
      have eb : bestV (m 212) p lit = bstL (m 212 (22 + l)) (stopV (m 212) l) (fun f => footV (m 212) p f (m 212 (28 + p)).toNat) 12 ((m 212 (60 + l)).toNat, m 212 (63 + l), lit, decide (m 212 (69 + l) = 1), M2 211 22) (w32 (m 212 (80 + p) + footV (m 212) p on hm), ((m 212 (60 + l)).toNat : Int)) := by
        unfold bestV
        dsimp only
        rw [if_neg (by assumption), hll, hon, hhm]
        simp only [Int.toNat_natCast]
        exact bstL_came _ _ _ _ _ _ _
      rw [eb]
      exact ⟨q1, q2, q3⟩
    · have := pop_own hb9 (by rw [hll]; simp only [Int.toNat_natCast]; omega)
      omega
    · unfold TMc TM
      simp (disch := omega) only [up_k, up_eq]
      refine ⟨⟨hT.1, hT.2.1, hT.2.2.1, ?_, hT.2.2.2.2⟩, ?_⟩ <;> first | trivial | rfl
    · rw [hll, Int.toNat_natCast] at hb9
      have := HI.liftOk hI (l := l) (by omega) hlit hb9 (tt := m 212 (63 + l)) (u := decide (m 212 (69 + l) = 1)) (c := M2 211 22)
      rw [show (m 212 1).toNat = F by omega] at this
      exact this
  · skip
    refine Ev.iload_n (q := 53) dX12_bestBy_52 rfl rfl ?_
    refine rI dX12_bestBy_53 rfl ?_
    refine ⟨?_, ?_, hF1⟩
    · unfold bestV
      dsimp only
      rw [if_pos (by assumption), hon, hhm]
      simp only [Int.toNat_natCast]
    · unfold bestV
      dsimp only
      rw [if_pos (by assumption)]
      exact o1
