/-! ===== the class: its answers ===== -/
def sC (a _k : Nat) : Bool := decide ((52 ≤ a ∧ a ≤ 59) ∨ (65 ≤ a ∧ a ≤ 76))
theorem sC_f {a k : Nat} (h : ¬ ((52 ≤ a ∧ a ≤ 59) ∨ (65 ≤ a ∧ a ≤ 76))) : sC a k = false := decide_eq_false h
theorem sC_n {a k : Nat} (h : sC a k = false) : ¬ ((52 ≤ a ∧ a ≤ 59) ∨ (65 ≤ a ∧ a ≤ 76)) := of_decide_eq_false h
theorem Fr.C65 {m m' : Mem} (h : Fr (sA 65) m m') : Fr sC m m' := h.mono (fun a k q => sA_f (fun z => by have := sC_n q; omega))
theorem Fr.CLi {m m' : Mem} (h : Fr sLi m m') : Fr sC m m' := h.mono (fun a k q => sLi_f (fun z => by have := sC_n q; omega))
theorem Fr.CPl {m m' : Mem} (h : Fr sPl m m') : Fr sC m m' := h.mono (fun a k q => sPl_f (fun z => by have := sC_n q; omega))
theorem Fr.CSi {m m' : Mem} (h : Fr sSi m m') : Fr sC m m' := h.mono (fun a k q => sSi_f (fun z => by have := sC_n q; omega))
theorem HouR.c {g : Row} {m m' : Mem} (h : HouR g m 33) (f : Fr sC m m') : HouR g m' 33 := h.keep (fun a h1 h2 => f.row a (fun _ => sC_f (by omega)))
theorem NowR.c {g : Row} {m m' : Mem} (h : NowR g m 44) (f : Fr sC m m') : NowR g m' 44 := h.keep (fun a h1 h2 => f.row a (fun _ => sC_f (by omega)))
theorem rdK_none {sp : Int} {st : Nat → Nat → Int} {n : Nat} {t : Tr} (h : tgo sp st t = none) : rdK sp st n t = -1 := by cases n <;> (unfold rdK; rw [h])
theorem rdK_0 {sp : Int} {st : Nat → Nat → Int} {t t' : Tr} (h : tgo sp st t = some t') : rdK sp st 0 t = t'.1 := by unfold rdK; rw [h]
theorem rdK_s {sp : Int} {st : Nat → Nat → Int} {n : Nat} {t t' : Tr} (h : tgo sp st t = some t') : rdK sp st (n + 1) t = rdK sp st n t' := by conv => lhs; unfold rdK; rw [h]
theorem rdK_came {sp : Int} {st : Nat → Nat → Int} {n : Nat} (t : Tr) (c : Int) : rdK sp st n t = rdK sp st n (t.1, t.2.1, t.2.2.1, t.2.2.2.1, c) := by cases n <;> rfl
theorem rOut_came {sp : Int} {st : Nat → Nat → Int} {n : Nat} (t : Tr) (c : Int) : rOut sp st n t = rOut sp st n (t.1, t.2.1, t.2.2.1, t.2.2.2.1, c) := by cases n <;> rfl
theorem HI.liftC {g : Row} (h : HI g) {l : Nat} (hl : (l : Int) < g 2) {tt : Int} {u : Bool} {c : Int} : tOk2 (g 1).toNat ((g (60 + l)).toNat, tt, (g (66 + l)).toNat, u, c) := h.liftOk hl (h.lift hl).2.1.2.1 (h.lift hl).2.1.2.2
theorem cmC_eq (g : Row) (l f : Nat) (c : Int) : (match rto (g (22 + l)) (stopV g l) f 13 ((g (60 + l)).toNat, g (63 + l), (g (66 + l)).toNat, decide (g (69 + l) = 1), c) with | some t' => t'.2.2.2.2 | none => -1) = cmV g l f := rfl
set_option maxRecDepth 4000 in
theorem l_ridersOf {Γ : Gm} {d : Nat} {m : Mem} (g : Row) (hI : HI g) (hH : HouR g m 33) (hN : NowR g m 44) (l : Nat) : ∀ (n p : Nat), p + n = (g 3).toNat → Em Γ (d + 0) MX11_ridersOf (fun r m' => r = (setN (inQ g l) (g 3).toNat : Int) ∧ m' = m) 4 [rv 0, iv l, iv (setN (inQ g l) p : Nat), iv p] [] m := by
  have hF12 := hI.1
  have hP8 := hI.2.2.1
  have hL3 := hI.2.1
  have e33 : m 33 3 = g 3 := hH.n0.2.2.2
  intro n
  induction n with
  | zero =>
    intro p hp
    refine Ev.iload_n (q := 5) dX11_ridersOf_4 rfl rfl ?_
    refine Ev.aload_n (q := 6) dX11_ridersOf_5 rfl rfl ?_
    refine gR (q := 9) dX11_ridersOf_6 gfX11_27 k0 r0_3 rfl rfl ?_
    refine gI (q := 12) dX11_ridersOf_9 gfX11_265 k33 rfl rfl ?_
    rw [e33]
    refine Ev.icmp_ge (tgt := 40) (q := 15) dX11_ridersOf_12 (by decide) rfl (fun h1 => ?_) (fun h1 => ?_)
    · skip
      refine Ev.iload_n (q := 41) dX11_ridersOf_40 rfl rfl ?_
      refine rI dX11_ridersOf_41 rfl ?_
      obtain rfl : p = (g 3).toNat := by omega
      exact ⟨rfl, rfl⟩
    · skip
      omega
  | succ n ih =>
    intro p hp
    have h12 := setN_12 (inQ g l) (show p ≤ 8 by omega)
    have e51 : m 51 p = g (88 + p) := (hN.2 p (by omega)).2.2
    refine Ev.iload_n (q := 5) dX11_ridersOf_4 rfl rfl ?_
    refine Ev.aload_n (q := 6) dX11_ridersOf_5 rfl rfl ?_
    refine gR (q := 9) dX11_ridersOf_6 gfX11_27 k0 r0_3 rfl rfl ?_
    refine gI (q := 12) dX11_ridersOf_9 gfX11_265 k33 rfl rfl ?_
    rw [e33]
    refine Ev.icmp_ge (tgt := 40) (q := 15) dX11_ridersOf_12 (by decide) rfl (fun h1 => ?_) (fun h1 => ?_)
    · skip
      omega
    · skip
      refine Ev.aload_n (q := 16) dX11_ridersOf_15 rfl rfl ?_
      refine gR (q := 19) dX11_ridersOf_16 gfX11_34 k0 r0_4 rfl rfl ?_
      refine gR (q := 22) dX11_ridersOf_19 gfX11_176 k44 r44_6 rfl rfl ?_
      refine Ev.iload_n (q := 23) dX11_ridersOf_22 rfl rfl ?_
      refine aI (q := 24) (k := p) dX11_ridersOf_23 k51 (by first | rfl | omega | (simp (disch := omega) only [w32_of]; omega)) (by omega) rfl ?_
      rw [e51]
      refine Ev.iload_n (q := 25) dX11_ridersOf_24 rfl rfl ?_
      refine Ev.icmp_ne (tgt := 34) (q := 28) dX11_ridersOf_25 (by decide) rfl (fun h2 => ?_) (fun h2 => ?_)
      · skip
        refine iinc_3 (q := 37) dX11_ridersOf_34 rfl rfl rfl ?_
        refine Ev.goto (q := 4) dX11_ridersOf_37 (by decide) ?_
        have hq : ¬ inQ g l p = true := by unfold inQ; intro z; have z := of_decide_eq_true z; omega
        rw [w32_of (by omega) (by omega)]
        have hk9 := ih (p + 1) (by omega)
        rw [show setN (inQ g l) (p + 1) = setN (inQ g l) p by conv => lhs; unfold setN; rw [if_neg hq]] at hk9
        exact hk9
      · skip
        refine Ev.iload_n (q := 29) dX11_ridersOf_28 rfl rfl ?_
        refine Ev.iconst (q := 30) dX11_ridersOf_29 ki_1 rfl ?_
        refine Ev.iload_n (q := 31) dX11_ridersOf_30 rfl rfl ?_
        refine Ev.ishl (q := 32) dX11_ridersOf_31 rfl ?_
        refine Ev.ior (q := 33) dX11_ridersOf_32 rfl ?_
        refine istore_n_2 (q := 34) dX11_ridersOf_33 rfl rfl rfl ?_
        refine iinc_3 (q := 37) dX11_ridersOf_34 rfl rfl rfl ?_
        refine Ev.goto (q := 4) dX11_ridersOf_37 (by decide) ?_
        have hq : inQ g l p = true := by unfold inQ; exact decide_eq_true (by omega)
        rw [ishl_1 p (by omega), ior_n (k := 12) h12 (two_lt (by omega)) (by decide), w32_of (by omega) (by omega)]
        have hk9 := ih (p + 1) (by omega)
        rw [show setN (inQ g l) (p + 1) = setN (inQ g l) p ||| 2 ^ p by conv => lhs; unfold setN; rw [if_pos hq]] at hk9
        exact hk9
set_option maxRecDepth 4000 in
theorem p_X11_ridersOf {Γ : Gm} {d : Nat} {m : Mem} (g : Row) (l : Nat) (hI : HI g) (hH : HouR g m 33) (hN : NowR g m 44) : Ci Γ (d + 0) MX11_ridersOf [rv 0, iv l] m (fun r m' => r = (inS g l : Int) ∧ m' = m) := by
  refine Ci.of moX11_ridersOf rfl rfl (fun hA hM => ?_)
  show Em Γ (d + 0) MX11_ridersOf _ 0 [rv 0, iv l, uv, uv] [] m
  have hP8 := hI.2.2.1
  refine Ev.iconst (q := 1) dX11_ridersOf_0 ki_0 rfl ?_
  refine istore_n_2 (q := 2) dX11_ridersOf_1 rfl rfl rfl ?_
  refine Ev.iconst (q := 3) dX11_ridersOf_2 ki_0 rfl ?_
  refine istore_n_3 (q := 4) dX11_ridersOf_3 rfl rfl rfl ?_
  exact l_ridersOf g hI hH hN l (g 3).toNat 0 (by omega)
set_option maxRecDepth 4000 in
theorem l_ridersC {Γ : Gm} {d : Nat} {m : Mem} (g : Row) (hI : HI g) (hH : HouR g m 33) (hN : NowR g m 44) : ∀ (n p : Nat), p + n = (g 3).toNat → Em Γ (d + 0) MX11_riders (fun r m' => r = (cntN (ridQ g) (g 3).toNat : Int) ∧ m' = m) 4 [rv 0, iv (cntN (ridQ g) p : Nat), iv p] [] m := by
  have hF12 := hI.1
  have hP8 := hI.2.2.1
  have hL3 := hI.2.1
  have e33 : m 33 3 = g 3 := hH.n0.2.2.2
  intro n
  induction n with
  | zero =>
    intro p hp
    refine Ev.iload_n (q := 5) dX11_riders_4 rfl rfl ?_
    refine Ev.aload_n (q := 6) dX11_riders_5 rfl rfl ?_
    refine gR (q := 9) dX11_riders_6 gfX11_27 k0 r0_3 rfl rfl ?_
    refine gI (q := 12) dX11_riders_9 gfX11_265 k33 rfl rfl ?_
    rw [e33]
    refine Ev.icmp_ge (tgt := 37) (q := 15) dX11_riders_12 (by decide) rfl (fun h1 => ?_) (fun h1 => ?_)
    · skip
      refine Ev.iload_n (q := 38) dX11_riders_37 rfl rfl ?_
      refine rI dX11_riders_38 rfl ?_
      obtain rfl : p = (g 3).toNat := by omega
      exact ⟨rfl, rfl⟩
    · skip
      omega
  | succ n ih =>
    intro p hp
    have h12 := cntN_le (ridQ g) p
    have e51 : m 51 p = g (88 + p) := (hN.2 p (by omega)).2.2
    refine Ev.iload_n (q := 5) dX11_riders_4 rfl rfl ?_
    refine Ev.aload_n (q := 6) dX11_riders_5 rfl rfl ?_
    refine gR (q := 9) dX11_riders_6 gfX11_27 k0 r0_3 rfl rfl ?_
    refine gI (q := 12) dX11_riders_9 gfX11_265 k33 rfl rfl ?_
    rw [e33]
    refine Ev.icmp_ge (tgt := 37) (q := 15) dX11_riders_12 (by decide) rfl (fun h1 => ?_) (fun h1 => ?_)
    · skip
      omega
    · skip
      refine Ev.aload_n (q := 16) dX11_riders_15 rfl rfl ?_
      refine gR (q := 19) dX11_riders_16 gfX11_34 k0 r0_4 rfl rfl ?_
      refine gR (q := 22) dX11_riders_19 gfX11_176 k44 r44_6 rfl rfl ?_
      refine Ev.iload_n (q := 23) dX11_riders_22 rfl rfl ?_
      refine aI (q := 24) (k := p) dX11_riders_23 k51 (by first | rfl | omega | (simp (disch := omega) only [w32_of]; omega)) (by omega) rfl ?_
      rw [e51]
      refine Ev.iconst (q := 25) dX11_riders_24 ki_m1 rfl ?_
      refine Ev.icmp_eq (tgt := 31) (q := 28) dX11_riders_25 (by decide) rfl (fun h2 => ?_) (fun h2 => ?_)
      · skip
        refine iinc_2 (q := 34) dX11_riders_31 rfl rfl rfl ?_
        refine Ev.goto (q := 4) dX11_riders_34 (by decide) ?_
        have hq : ¬ ridQ g p = true := by unfold ridQ; intro z; have z := of_decide_eq_true z; omega
        rw [w32_of (by omega) (by omega)]
        have hk9 := ih (p + 1) (by omega)
        rw [show cntN (ridQ g) (p + 1) = cntN (ridQ g) p by conv => lhs; unfold cntN; rw [if_neg hq]] at hk9
        exact hk9
      · skip
        refine iinc_1 (q := 31) dX11_riders_28 rfl rfl rfl ?_
        refine iinc_2 (q := 34) dX11_riders_31 rfl rfl rfl ?_
        refine Ev.goto (q := 4) dX11_riders_34 (by decide) ?_
        have hq : ridQ g p = true := by unfold ridQ; exact decide_eq_true (by omega)
        rw [w32_of (by omega) (by omega), w32_of (by omega) (by omega)]
        have hk9 := ih (p + 1) (by omega)
        rw [show cntN (ridQ g) (p + 1) = cntN (ridQ g) p + 1 by conv => lhs; unfold cntN; rw [if_pos hq]] at hk9
        exact hk9
set_option maxRecDepth 4000 in
theorem p_X11_riders {Γ : Gm} {d : Nat} {m : Mem} (g : Row) (hI : HI g) (hH : HouR g m 33) (hN : NowR g m 44) : Ci Γ (d + 0) MX11_riders [rv 0] m (fun r m' => r = (ridC g : Int) ∧ m' = m) := by
  refine Ci.of moX11_riders rfl rfl (fun hA hM => ?_)
  show Em Γ (d + 0) MX11_riders _ 0 [rv 0, uv, uv] [] m
  have hP8 := hI.2.2.1
  refine Ev.iconst (q := 1) dX11_riders_0 ki_0 rfl ?_
  refine istore_n_1 (q := 2) dX11_riders_1 rfl rfl rfl ?_
  refine Ev.iconst (q := 3) dX11_riders_2 ki_0 rfl ?_
  refine istore_n_2 (q := 4) dX11_riders_3 rfl rfl rfl ?_
  exact l_ridersC g hI hH hN (g 3).toNat 0 (by omega)
set_option maxRecDepth 4000 in
theorem l_peopleAtHome {Γ : Gm} {d : Nat} {m : Mem} (g : Row) (n0 : Nat) (hn : n0 ∈ nowC) (hI : HI g) (hH : HouR g m 33) (hN : NowR g m n0) : ∀ (n p : Nat), p + n = (g 3).toNat → Em Γ (d + 0) MX11_peopleAtHome (fun r m' => r = (setN (homQ g) (g 3).toNat : Int) ∧ m' = m) 4 [rv 0, rv n0, iv (setN (homQ g) p : Nat), iv p] [] m := by
  have hF12 := hI.1
  have hP8 := hI.2.2.1
  have hL3 := hI.2.1
  have e33 : m 33 3 = g 3 := hH.n0.2.2.2
  obtain ⟨nwK, ⟨nwr0, nwr1, nwr2, nwr3, nwr4, nwr5, nwr6⟩, nwK0, nwK1, nwK2, nwK3, nwK4, nwK5, nwK6, nwN⟩ := nowK n0 hn
  intro n
  induction n with
  | zero =>
    intro p hp
    refine Ev.iload_n (q := 5) dX11_peopleAtHome_4 rfl rfl ?_
    refine Ev.aload_n (q := 6) dX11_peopleAtHome_5 rfl rfl ?_
    refine gR (q := 9) dX11_peopleAtHome_6 gfX11_27 k0 r0_3 rfl rfl ?_
    refine gI (q := 12) dX11_peopleAtHome_9 gfX11_265 k33 rfl rfl ?_
    rw [e33]
    refine Ev.icmp_ge (tgt := 55) (q := 15) dX11_peopleAtHome_12 (by decide) rfl (fun h1 => ?_) (fun h1 => ?_)
    · skip
      refine Ev.iload_n (q := 56) dX11_peopleAtHome_55 rfl rfl ?_
      refine rI dX11_peopleAtHome_56 rfl ?_
      obtain rfl : p = (g 3).toNat := by omega
      exact ⟨rfl, rfl⟩
    · skip
      omega
  | succ n ih =>
    intro p hp
    have h12 := setN_12 (homQ g) (show p ≤ 8 by omega)
    have e51 := (hN.2 p (by omega)).2.2
    have e49 := (hN.2 p (by omega)).1
    have e36 : m 36 p = g (28 + p) := (hH.ho (by omega)).1
    refine Ev.iload_n (q := 5) dX11_peopleAtHome_4 rfl rfl ?_
    refine Ev.aload_n (q := 6) dX11_peopleAtHome_5 rfl rfl ?_
    refine gR (q := 9) dX11_peopleAtHome_6 gfX11_27 k0 r0_3 rfl rfl ?_
    refine gI (q := 12) dX11_peopleAtHome_9 gfX11_265 k33 rfl rfl ?_
    rw [e33]
    refine Ev.icmp_ge (tgt := 55) (q := 15) dX11_peopleAtHome_12 (by decide) rfl (fun h1 => ?_) (fun h1 => ?_)
    · skip
      omega
    · skip
      refine Ev.aload_n (q := 16) dX11_peopleAtHome_15 rfl rfl ?_
      refine gR (q := 19) dX11_peopleAtHome_16 gfX11_176 nwK nwr6 rfl rfl ?_
      refine Ev.iload_n (q := 20) dX11_peopleAtHome_19 rfl rfl ?_
      refine aI (q := 21) (k := p) dX11_peopleAtHome_20 nwK6 (by first | rfl | omega | (simp (disch := omega) only [w32_of]; omega)) (by omega) rfl ?_
      rw [e51]
      refine Ev.iconst (q := 22) dX11_peopleAtHome_21 ki_m1 rfl ?_
      refine Ev.icmp_ne (tgt := 49) (q := 25) dX11_peopleAtHome_22 (by decide) rfl (fun h2 => ?_) (fun h2 => ?_)
      · skip
        refine iinc_3 (q := 52) dX11_peopleAtHome_49 rfl rfl rfl ?_
        refine Ev.goto (q := 4) dX11_peopleAtHome_52 (by decide) ?_
        have hq : ¬ homQ g p = true := by unfold homQ; intro z; have z := of_decide_eq_true z; omega
        rw [w32_of (by omega) (by omega)]
        have hk9 := ih (p + 1) (by omega)
        rw [show setN (homQ g) (p + 1) = setN (homQ g) p by conv => lhs; unfold setN; rw [if_neg hq]] at hk9
        exact hk9
      · skip
        refine Ev.aload_n (q := 26) dX11_peopleAtHome_25 rfl rfl ?_
        refine gR (q := 29) dX11_peopleAtHome_26 gfX11_170 nwK nwr4 rfl rfl ?_
        refine Ev.iload_n (q := 30) dX11_peopleAtHome_29 rfl rfl ?_
        refine aI (q := 31) (k := p) dX11_peopleAtHome_30 nwK4 (by first | rfl | omega | (simp (disch := omega) only [w32_of]; omega)) (by omega) rfl ?_
        rw [e49]
        refine Ev.aload_n (q := 32) dX11_peopleAtHome_31 rfl rfl ?_
        refine gR (q := 35) dX11_peopleAtHome_32 gfX11_27 k0 r0_3 rfl rfl ?_
        refine gR (q := 38) dX11_peopleAtHome_35 gfX11_179 k33 r33_6 rfl rfl ?_
        refine Ev.iload_n (q := 39) dX11_peopleAtHome_38 rfl rfl ?_
        refine aI (q := 40) (k := p) dX11_peopleAtHome_39 k36 (by first | rfl | omega | (simp (disch := omega) only [w32_of]; omega)) (by omega) rfl ?_
        rw [e36]
        refine Ev.icmp_ne (tgt := 49) (q := 43) dX11_peopleAtHome_40 (by decide) rfl (fun h3 => ?_) (fun h3 => ?_)
        · skip
          refine iinc_3 (q := 52) dX11_peopleAtHome_49 rfl rfl rfl ?_
          refine Ev.goto (q := 4) dX11_peopleAtHome_52 (by decide) ?_
          have hq : ¬ homQ g p = true := by unfold homQ; intro z; have z := of_decide_eq_true z; omega
          rw [w32_of (by omega) (by omega)]
          have hk9 := ih (p + 1) (by omega)
          rw [show setN (homQ g) (p + 1) = setN (homQ g) p by conv => lhs; unfold setN; rw [if_neg hq]] at hk9
          exact hk9
        · skip
          refine Ev.iload_n (q := 44) dX11_peopleAtHome_43 rfl rfl ?_
          refine Ev.iconst (q := 45) dX11_peopleAtHome_44 ki_1 rfl ?_
          refine Ev.iload_n (q := 46) dX11_peopleAtHome_45 rfl rfl ?_
          refine Ev.ishl (q := 47) dX11_peopleAtHome_46 rfl ?_
          refine Ev.ior (q := 48) dX11_peopleAtHome_47 rfl ?_
          refine istore_n_2 (q := 49) dX11_peopleAtHome_48 rfl rfl rfl ?_
          refine iinc_3 (q := 52) dX11_peopleAtHome_49 rfl rfl rfl ?_
          refine Ev.goto (q := 4) dX11_peopleAtHome_52 (by decide) ?_
          have hq : homQ g p = true := by unfold homQ; exact decide_eq_true ⟨by omega, by omega⟩
          rw [ishl_1 p (by omega), ior_n (k := 12) h12 (two_lt (by omega)) (by decide), w32_of (by omega) (by omega)]
          have hk9 := ih (p + 1) (by omega)
          rw [show setN (homQ g) (p + 1) = setN (homQ g) p ||| 2 ^ p by conv => lhs; unfold setN; rw [if_pos hq]] at hk9
          exact hk9
set_option maxRecDepth 4000 in
theorem p_X11_peopleAtHome {Γ : Gm} {d : Nat} {m : Mem} (g : Row) (n0 : Nat) (hn : n0 ∈ nowC) (hI : HI g) (hH : HouR g m 33) (hN : NowR g m n0) : Ci Γ (d + 0) MX11_peopleAtHome [rv 0, rv n0] m (fun r m' => r = (homS g : Int) ∧ m' = m) := by
  refine Ci.of moX11_peopleAtHome rfl rfl (fun hA hM => ?_)
  show Em Γ (d + 0) MX11_peopleAtHome _ 0 [rv 0, rv n0, uv, uv] [] m
  have hP8 := hI.2.2.1
  obtain ⟨nwK, ⟨nwr0, nwr1, nwr2, nwr3, nwr4, nwr5, nwr6⟩, nwK0, nwK1, nwK2, nwK3, nwK4, nwK5, nwK6, nwN⟩ := nowK n0 hn
  refine Ev.iconst (q := 1) dX11_peopleAtHome_0 ki_0 rfl ?_
  refine istore_n_2 (q := 2) dX11_peopleAtHome_1 rfl rfl rfl ?_
  refine Ev.iconst (q := 3) dX11_peopleAtHome_2 ki_0 rfl ?_
  refine istore_n_3 (q := 4) dX11_peopleAtHome_3 rfl rfl rfl ?_
  exact l_peopleAtHome g n0 hn hI hH hN (g 3).toNat 0 (by omega)
set_option maxRecDepth 4000 in
theorem l_lightsOf {Γ : Gm} {d : Nat} {m : Mem} (g : Row) (n0 : Nat) (hn : n0 ∈ nowC) (hI : HI g) (hH : HouR g m 33) (hN : NowR g m n0) : ∀ (n p : Nat), p + n = (g 2).toNat → Em Γ (d + 1) MX11_lightsOf (fun r m' => r = (lmN g (g 2).toNat : Int) ∧ m' = m) 4 [rv 0, rv n0, iv (lmN g p : Nat), iv p] [] m := by
  have hF12 := hI.1
  have hP8 := hI.2.2.1
  have hL3 := hI.2.1
  have e33 : m 33 2 = g 2 := hH.n0.2.2.1
  obtain ⟨nwK, ⟨nwr0, nwr1, nwr2, nwr3, nwr4, nwr5, nwr6⟩, nwK0, nwK1, nwK2, nwK3, nwK4, nwK5, nwK6, nwN⟩ := nowK n0 hn
  intro n
  induction n with
  | zero =>
    intro p hp
    refine Ev.iload_n (q := 5) dX11_lightsOf_4 rfl rfl ?_
    refine Ev.aload_n (q := 6) dX11_lightsOf_5 rfl rfl ?_
    refine gR (q := 9) dX11_lightsOf_6 gfX11_27 k0 r0_3 rfl rfl ?_
    refine gI (q := 12) dX11_lightsOf_9 gfX11_262 k33 rfl rfl ?_
    rw [e33]
    refine Ev.icmp_ge (tgt := 33) (q := 15) dX11_lightsOf_12 (by decide) rfl (fun h1 => ?_) (fun h1 => ?_)
    · skip
      refine Ev.iload_n (q := 34) dX11_lightsOf_33 rfl rfl ?_
      refine rI dX11_lightsOf_34 rfl ?_
      obtain rfl : p = (g 2).toNat := by omega
      exact ⟨rfl, rfl⟩
    · skip
      omega
  | succ n ih =>
    intro p hp
    have h12 := lmN_le g p
    have e47 : m (n0 + 3) p = ((litV g p : Nat) : Int) := by rw [(hN.1 p (by omega)).2.2.1]; unfold litV; have := (hI.lift (l := p) (by omega)).2.1.1; omega
    refine Ev.iload_n (q := 5) dX11_lightsOf_4 rfl rfl ?_
    refine Ev.aload_n (q := 6) dX11_lightsOf_5 rfl rfl ?_
    refine gR (q := 9) dX11_lightsOf_6 gfX11_27 k0 r0_3 rfl rfl ?_
    refine gI (q := 12) dX11_lightsOf_9 gfX11_262 k33 rfl rfl ?_
    rw [e33]
    refine Ev.icmp_ge (tgt := 33) (q := 15) dX11_lightsOf_12 (by decide) rfl (fun h1 => ?_) (fun h1 => ?_)
    · skip
      omega
    · skip
      refine Ev.iload_n (q := 16) dX11_lightsOf_15 rfl rfl ?_
      refine Ev.aload_n (q := 17) dX11_lightsOf_16 rfl rfl ?_
      refine gR (q := 20) dX11_lightsOf_17 gfX11_146 nwK nwr2 rfl rfl ?_
      refine Ev.iload_n (q := 21) dX11_lightsOf_20 rfl rfl ?_
      refine aI (q := 22) (k := p) dX11_lightsOf_21 nwK2 (by first | rfl | omega | (simp (disch := omega) only [w32_of]; omega)) (by omega) rfl ?_
      rw [e47]
      refine cS1i (q := 25) (d' := d + 0) dX11_lightsOf_22 mlX11_214 moJ6_bitCount_0f7a4 msJ6_bitCount_0f7a4 rfl rfl (Nat.le_refl _) rfl rfl rfl (p_J6_bitCount_0f7a4 (litV g p) ((hI.litOk (l := p) (by omega)).lt hI)) (fun r2 m2 e2 => ?_)
      obtain ⟨rfl, e2⟩ := e2
      obtain rfl := e2.symm
      refine Ev.iadd (q := 26) dX11_lightsOf_25 rfl ?_
      refine istore_n_2 (q := 27) dX11_lightsOf_26 rfl rfl rfl ?_
      refine iinc_3 (q := 30) dX11_lightsOf_27 rfl rfl rfl ?_
      refine Ev.goto (q := 4) dX11_lightsOf_30 (by decide) ?_
      have hb := pop_le (litV g p)
      rw [w32_of (by omega) (by omega), w32_of (by omega) (by omega)]
      have hk9 := ih (p + 1) (by omega)
      rw [show ((lmN g (p + 1) : Nat) : Int) = (lmN g p : Int) + (pop (litV g p) : Int) from by show ((lmN g p + pop (litV g p) : Nat) : Int) = _; omega] at hk9
      exact hk9
set_option maxRecDepth 4000 in
theorem p_X11_lightsOf {Γ : Gm} {d : Nat} {m : Mem} (g : Row) (n0 : Nat) (hn : n0 ∈ nowC) (hI : HI g) (hH : HouR g m 33) (hN : NowR g m n0) : Ci Γ (d + 1) MX11_lightsOf [rv 0, rv n0] m (fun r m' => r = (lmC g : Int) ∧ m' = m) := by
  refine Ci.of moX11_lightsOf rfl rfl (fun hA hM => ?_)
  show Em Γ (d + 1) MX11_lightsOf _ 0 [rv 0, rv n0, uv, uv] [] m
  have hL3 := hI.2.1
  obtain ⟨nwK, ⟨nwr0, nwr1, nwr2, nwr3, nwr4, nwr5, nwr6⟩, nwK0, nwK1, nwK2, nwK3, nwK4, nwK5, nwK6, nwN⟩ := nowK n0 hn
  refine Ev.iconst (q := 1) dX11_lightsOf_0 ki_0 rfl ?_
  refine istore_n_2 (q := 2) dX11_lightsOf_1 rfl rfl rfl ?_
  refine Ev.iconst (q := 3) dX11_lightsOf_2 ki_0 rfl ?_
  refine istore_n_3 (q := 4) dX11_lightsOf_3 rfl rfl rfl ?_
  exact l_lightsOf g n0 hn hI hH hN (g 2).toNat 0 (by omega)
set_option maxRecDepth 4000 in
theorem p_X11_walkingHome {Γ : Gm} {d : Nat} {m : Mem} (g : Row) (p : Nat) (hI : HI g) (hH : HouR g m 33) (hN : NowR g m 44) (hp : (p : Int) < g 3) : Ci Γ (d + 1) MX11_walkingHome [rv 0, iv p] m (fun r m' => r = w32 (g (80 + p) + footV g p (g (72 + p)).toNat (g (28 + p)).toNat) ∧ m' = m) := by
  refine Ci.of moX11_walkingHome rfl rfl (fun hA hM => ?_)
  show Em Γ (d + 1) MX11_walkingHome _ 0 [rv 0, iv p] [] m
  have hF12 := hI.1
  have hP8 := hI.2.2.1
  have hL3 := hI.2.1
  have qp := hI.pers hp
  refine Ev.aload_n (q := 1) dX11_walkingHome_0 rfl rfl ?_
  refine gR (q := 4) dX11_walkingHome_1 gfX11_34 k0 r0_4 rfl rfl ?_
  refine gR (q := 7) dX11_walkingHome_4 gfX11_173 k44 r44_5 rfl rfl ?_
  refine Ev.iload_n (q := 8) dX11_walkingHome_7 rfl rfl ?_
  refine aI (q := 9) (k := p) dX11_walkingHome_8 k50 (by first | rfl | omega | (simp (disch := omega) only [w32_of]; omega)) (by omega) rfl ?_
  rw [show m 50 p = g (80 + p) from (hN.2 p hp).2.1]
  refine Ev.aload_n (q := 10) dX11_walkingHome_9 rfl rfl ?_
  refine gR (q := 13) dX11_walkingHome_10 gfX11_27 k0 r0_3 rfl rfl ?_
  refine Ev.iload_n (q := 14) dX11_walkingHome_13 rfl rfl ?_
  refine Ev.aload_n (q := 15) dX11_walkingHome_14 rfl rfl ?_
  refine gR (q := 18) dX11_walkingHome_15 gfX11_34 k0 r0_4 rfl rfl ?_
  refine gR (q := 21) dX11_walkingHome_18 gfX11_170 k44 r44_4 rfl rfl ?_
  refine Ev.iload_n (q := 22) dX11_walkingHome_21 rfl rfl ?_
  refine aI (q := 23) (k := p) dX11_walkingHome_22 k49 (by first | rfl | omega | (simp (disch := omega) only [w32_of]; omega)) (by omega) rfl ?_
  rw [show m 49 p = g (72 + p) from (hN.2 p hp).1, show g (72 + p) = (((g (72 + p)).toNat : Nat) : Int) by omega]
  refine cV2i (q := 26) (d' := d + 0) dX11_walkingHome_23 mlX11_299 moX1_onFootHome mvX1_onFootHome k33 rfl rfl rfl (Nat.le_refl _) rfl rfl rfl (p_X1_onFootHome 33 p (g (72 + p)).toNat (by decide) (by omega) (by omega)) (fun r1 m1 e1 => ?_)
  obtain ⟨rfl, e1⟩ := e1
  obtain rfl := e1.symm
  rw [show (33 : Nat) + 9 = 42 from rfl, hH.fh hp (by omega)]
  refine Ev.iadd (q := 27) dX11_walkingHome_26 rfl ?_
  refine rI dX11_walkingHome_27 rfl ?_
  exact ⟨by rw [show (((g (72 + p)).toNat : Nat) : Int).toNat = (g (72 + p)).toNat from rfl], rfl⟩
set_option maxRecDepth 4000 in
theorem p_X11_isTray {Γ : Gm} {d : Nat} {m : Mem} (t : Int) : Ci Γ (d + 0) MX11_isTray [rv 0, iv t] m (fun r m' => r = (if 0 ≤ t ∧ t ≤ 3 then 1 else 0) ∧ m' = m) := by
  refine Ci.of moX11_isTray rfl rfl (fun hA hM => ?_)
  show Em Γ (d + 0) MX11_isTray _ 0 [rv 0, iv t] [] m
  refine Ev.iload_n (q := 1) dX11_isTray_0 rfl rfl ?_
  refine Ev.if_lt (tgt := 13) (q := 4) dX11_isTray_1 (by decide) rfl (fun h1 => ?_) (fun h1 => ?_)
  · skip
    refine Ev.iconst (q := 14) dX11_isTray_13 ki_0 rfl ?_
    refine rZ dX11_isTray_14 rfl (by decide) ?_
    exact ⟨by split <;> first | rfl | omega, rfl⟩
  · skip
    refine Ev.iload_n (q := 5) dX11_isTray_4 rfl rfl ?_
    refine Ev.iconst (q := 6) dX11_isTray_5 ki_4 rfl ?_
    refine Ev.icmp_ge (tgt := 13) (q := 9) dX11_isTray_6 (by decide) rfl (fun h2 => ?_) (fun h2 => ?_)
    · skip
      refine Ev.iconst (q := 14) dX11_isTray_13 ki_0 rfl ?_
      refine rZ dX11_isTray_14 rfl (by decide) ?_
      exact ⟨by split <;> first | rfl | omega, rfl⟩
    · skip
      refine Ev.iconst (q := 10) dX11_isTray_9 ki_1 rfl ?_
      refine Ev.goto (q := 14) dX11_isTray_10 (by decide) ?_
      refine rZ dX11_isTray_14 rfl (by decide) ?_
      exact ⟨by split <;> first | rfl | omega, rfl⟩
