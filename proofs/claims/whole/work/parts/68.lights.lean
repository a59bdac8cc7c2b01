/-! ===== the class: what lights do ===== -/
def sLi (a _k : Nat) : Bool := decide (68 ≤ a ∧ a ≤ 71)
theorem sLi_f {a k : Nat} (h : ¬ (68 ≤ a ∧ a ≤ 71)) : sLi a k = false := decide_eq_false h
theorem Fr.toLi {m m' : Mem} (h : Fr (sA 71) m m') : Fr sLi m m' := h.mono (fun a k q => sA_f (fun z => by rw [z] at q; cases q))
def bpM (m : Mem) (p : Nat) : Int × Int := (m 69 p, m 70 p)
def bUp (b : Int × Int) (s : Int) (f : Nat) : Int × Int := if s < b.1 then (s, (f : Int)) else b
theorem bstL_none {sp : Int} {st : Nat → Nat → Int} {ft : Nat → Int} {t : Tr} (h : tgo sp st t = none) (n : Nat) (b : Int × Int) : bstL sp st ft n t b = b := by
  cases n with
  | zero => rfl
  | succ n => unfold bstL; rw [h]
theorem bstL_some {sp : Int} {st : Nat → Nat → Int} {ft : Nat → Int} {t t' : Tr} (h : tgo sp st t = some t') (n : Nat) (b : Int × Int) : bstL sp st ft (n + 1) t b = bstL sp st ft n t' (bUp b (w32 (t'.2.2.2.2 + ft t'.1)) t'.1) := by
  conv => lhs; unfold bstL; rw [h]
  rfl
/-- people in lift l: their best, by a row of pairs -/
def inB (g : Row) (l lit : Nat) (m : Mem) : Prop := ∀ p : Nat, (p : Int) < g 3 → g (88 + p) = l → bpM m p = bestV g p lit
set_option maxRecDepth 4000 in
theorem l_offerStop {Γ : Gm} {d : Nat} {m0 : Mem} (g : Row) (l : Nat) (hI : HI g) (hl : (l : Int) < g 2) (hH : HouR g m0 33) (hN : NowR g m0 44) (f : Nat) (cm : Int) (hfF : (f : Int) < g 1) (hC : m0 71 6 = cm) (hf : m0 71 2 = f) : ∀ (q k : Nat) (M : Mem) (v3 : Vl), k + q = (g 3).toNat → (∀ p : Nat, (p : Int) < g 3 → g (88 + p) = l → bpM M p = (if p < k then bUp (bpM m0 p) (w32 (cm + footV g p f (g (28 + p)).toNat)) f else bpM m0 p)) → (∀ a, a ≠ 69 → a ≠ 70 → M a = m0 a) → Em Γ (d + 1) MX3_offerStop (fun r m' => (∀ p : Nat, (p : Int) < g 3 → g (88 + p) = l → bpM m' p = bUp (bpM m0 p) (w32 (cm + footV g p f (g (28 + p)).toNat)) f) ∧ (∀ a, a ≠ 69 → a ≠ 70 → m' a = m0 a)) 2 [rv 68, iv l, iv k, v3] [] M := by
  have hF12 := hI.1
  have hP8 := hI.2.2.1
  have hL3 := hI.2.1
  intro q
  induction q with
  | zero =>
    intro k M v3 hk hB hF
    have e33 : M 33 3 = g 3 := by rw [hF 33 (by decide) (by decide)]; exact hH.n0.2.2.2
    have eC : M 71 6 = cm := by rw [hF 71 (by decide) (by decide)]; exact hC
    have eF : M 71 2 = f := by rw [hF 71 (by decide) (by decide)]; exact hf
    refine Ev.iload_n (q := 3) dX3_offerStop_2 rfl rfl ?_
    refine Ev.aload_n (q := 4) dX3_offerStop_3 rfl rfl ?_
    refine gR (q := 7) dX3_offerStop_4 gfX3_32 k68 r68_0 rfl rfl ?_
    refine gI (q := 10) dX3_offerStop_7 gfX3_56 k33 rfl rfl ?_
    rw [e33]
    refine Ev.icmp_ge (tgt := 86) (q := 13) dX3_offerStop_10 (by decide) rfl (fun h1 => ?_) (fun h1 => ?_)
    · skip
      refine rV dX3_offerStop_86 rfl ?_
      exact ⟨fun p hp hin => by rw [hB p hp hin, if_pos (by omega)], hF⟩
    · skip
      omega
  | succ q ih =>
    intro k M v3 hk hB hF
    have e33 : M 33 3 = g 3 := by rw [hF 33 (by decide) (by decide)]; exact hH.n0.2.2.2
    have eC : M 71 6 = cm := by rw [hF 71 (by decide) (by decide)]; exact hC
    have eF : M 71 2 = f := by rw [hF 71 (by decide) (by decide)]; exact hf
    have eIn : M 51 k = g (88 + k) := by rw [hF 51 (by decide) (by decide)]; exact (hN.2 k (by omega)).2.2
    have eFt : M 42 (k * 12 + f) = footV g k f (g (28 + k)).toNat := by rw [hF 42 (by decide) (by decide)]; exact hH.fh (by omega) hfF
    refine Ev.iload_n (q := 3) dX3_offerStop_2 rfl rfl ?_
    refine Ev.aload_n (q := 4) dX3_offerStop_3 rfl rfl ?_
    refine gR (q := 7) dX3_offerStop_4 gfX3_32 k68 r68_0 rfl rfl ?_
    refine gI (q := 10) dX3_offerStop_7 gfX3_56 k33 rfl rfl ?_
    rw [e33]
    refine Ev.icmp_ge (tgt := 86) (q := 13) dX3_offerStop_10 (by decide) rfl (fun h1 => ?_) (fun h1 => ?_)
    · skip
      omega
    · skip
      refine Ev.aload_n (q := 14) dX3_offerStop_13 rfl rfl ?_
      refine gR (q := 17) dX3_offerStop_14 gfX3_45 k68 r68_2 rfl rfl ?_
      refine gI (q := 20) dX3_offerStop_17 gfX3_84 k71 rfl rfl ?_
      rw [eC]
      refine Ev.aload_n (q := 21) dX3_offerStop_20 rfl rfl ?_
      refine gR (q := 24) dX3_offerStop_21 gfX3_32 k68 r68_0 rfl rfl ?_
      refine Ev.iload_n (q := 25) dX3_offerStop_24 rfl rfl ?_
      refine Ev.aload_n (q := 26) dX3_offerStop_25 rfl rfl ?_
      refine gR (q := 29) dX3_offerStop_26 gfX3_45 k68 r68_2 rfl rfl ?_
      refine gI (q := 32) dX3_offerStop_29 gfX3_61 k71 rfl rfl ?_
      rw [eF]
      refine cV2i (q := 35) (d' := d + 0) dX3_offerStop_32 mlX3_69 moX1_onFootHome mvX1_onFootHome k33 rfl rfl rfl (Nat.le_refl _) rfl rfl rfl (p_X1_onFootHome 33 k f (by decide) (by omega) (by omega)) (fun r2 m2 e2 => ?_)
      obtain ⟨rfl, e2⟩ := e2
      obtain rfl := e2.symm
      rw [eFt]
      refine Ev.iadd (q := 36) dX3_offerStop_35 rfl ?_
      refine istore_n_3 (q := 37) dX3_offerStop_36 rfl rfl rfl ?_
      refine Ev.aload_n (q := 38) dX3_offerStop_37 rfl rfl ?_
      refine gR (q := 41) dX3_offerStop_38 gfX3_36 k68 r68_1 rfl rfl ?_
      refine gR (q := 44) dX3_offerStop_41 gfX3_87 k44 r44_6 rfl rfl ?_
      refine Ev.iload_n (q := 45) dX3_offerStop_44 rfl rfl ?_
      refine aI (q := 46) (k := k) dX3_offerStop_45 k51 (by first | rfl | omega | (simp (disch := omega) only [w32_of]; omega)) (by omega) rfl ?_
      rw [eIn]
      refine Ev.iload_n (q := 47) dX3_offerStop_46 rfl rfl ?_
      refine Ev.icmp_ne (tgt := 80) (q := 50) dX3_offerStop_47 (by decide) rfl (fun h3 => ?_) (fun h3 => ?_)
      · skip
        refine iinc_2 (q := 83) dX3_offerStop_80 rfl rfl rfl ?_
        refine Ev.goto (q := 2) dX3_offerStop_83 (by decide) ?_
        rw [w32_of (z := (k : Int) + 1) (by omega) (by omega)]
        refine ih (k + 1) _ _ (by omega) (fun p hp hin => ?_) hF
        by_cases e : p = k
        · subst e
          rw [if_pos (by omega)]
          have hBp := hB p hp hin
          rw [if_neg (by omega)] at hBp
          omega
        · have hBp := hB p hp hin
          rw [show (if p < k + 1 then bUp (bpM m0 p) (w32 (cm + footV g p f (g (28 + p)).toNat)) f else bpM m0 p) = (if p < k then bUp (bpM m0 p) (w32 (cm + footV g p f (g (28 + p)).toNat)) f else bpM m0 p) by
            by_cases q : p < k
            · rw [if_pos q, if_pos (by omega)]
            · rw [if_neg q, if_neg (by omega)]]
          rw [← hBp]
      · skip
        refine Ev.iload_n (q := 51) dX3_offerStop_50 rfl rfl ?_
        refine Ev.aload_n (q := 52) dX3_offerStop_51 rfl rfl ?_
        refine gR (q := 55) dX3_offerStop_52 gfX3_9 k68 r68_3 rfl rfl ?_
        refine Ev.iload_n (q := 56) dX3_offerStop_55 rfl rfl ?_
        refine aI (q := 57) (k := k) dX3_offerStop_56 k69 (by first | rfl | omega | (simp (disch := omega) only [w32_of]; omega)) (by omega) rfl ?_
        refine Ev.icmp_ge (tgt := 80) (q := 60) dX3_offerStop_57 (by decide) rfl (fun h4 => ?_) (fun h4 => ?_)
        · skip
          refine iinc_2 (q := 83) dX3_offerStop_80 rfl rfl rfl ?_
          refine Ev.goto (q := 2) dX3_offerStop_83 (by decide) ?_
          rw [w32_of (z := (k : Int) + 1) (by omega) (by omega)]
          refine ih (k + 1) _ _ (by omega) (fun p hp hin => ?_) hF
          by_cases e : p = k
          · subst e
            rw [if_pos (by omega)]
            have hBp := hB p hp hin
            rw [if_neg (by omega)] at hBp
            rw [hBp]; unfold bUp; rw [if_neg]; rw [← hBp]; show ¬ _ < M 69 p; omega
          · have hBp := hB p hp hin
            rw [show (if p < k + 1 then bUp (bpM m0 p) (w32 (cm + footV g p f (g (28 + p)).toNat)) f else bpM m0 p) = (if p < k then bUp (bpM m0 p) (w32 (cm + footV g p f (g (28 + p)).toNat)) f else bpM m0 p) by
              by_cases q : p < k
              · rw [if_pos q, if_pos (by omega)]
              · rw [if_neg q, if_neg (by omega)]]
            rw [← hBp]
        · skip
          refine Ev.aload_n (q := 61) dX3_offerStop_60 rfl rfl ?_
          refine gR (q := 64) dX3_offerStop_61 gfX3_9 k68 r68_3 rfl rfl ?_
          refine Ev.iload_n (q := 65) dX3_offerStop_64 rfl rfl ?_
          refine Ev.iload_n (q := 66) dX3_offerStop_65 rfl rfl ?_
          refine sI (q := 67) (k := k) dX3_offerStop_66 k69 (by first | rfl | omega | (simp (disch := omega) only [w32_of]; omega)) (by omega) rfl ?_
          refine Ev.aload_n (q := 68) dX3_offerStop_67 rfl rfl ?_
          refine gR (q := 71) dX3_offerStop_68 gfX3_15 k68 r68_4 rfl rfl ?_
          refine Ev.iload_n (q := 72) dX3_offerStop_71 rfl rfl ?_
          refine Ev.aload_n (q := 73) dX3_offerStop_72 rfl rfl ?_
          refine gR (q := 76) dX3_offerStop_73 gfX3_45 k68 r68_2 rfl rfl ?_
          refine gI (q := 79) dX3_offerStop_76 gfX3_61 k71 rfl rfl ?_
          rw [up_o _ _ (by decide), eF]
          refine sI (q := 80) (k := k) dX3_offerStop_79 k70 (by first | rfl | omega | (simp (disch := omega) only [w32_of]; omega)) (by omega) rfl ?_
          refine iinc_2 (q := 83) dX3_offerStop_80 rfl rfl rfl ?_
          refine Ev.goto (q := 2) dX3_offerStop_83 (by decide) ?_
          rw [w32_of (z := (k : Int) + 1) (by omega) (by omega)]
          refine ih (k + 1) _ _ (by omega) (fun p hp hin => ?_) (fun a h1 h2 => by rw [up_na _ _ h2, up_na _ _ h1]; exact hF a h1 h2)
          by_cases e : p = k
          · subst e
            rw [if_pos (by omega)]
            have hBp := hB p hp hin
            rw [if_neg (by omega)] at hBp
            unfold bUp
            rw [if_pos (by rw [← hBp]; show _ < M 69 p; omega)]
            show ((up (up M 69 p _) 70 p _) 69 p, (up (up M 69 p _) 70 p _) 70 p) = _
            rw [up_eq, up_o _ _ (by decide), up_eq]
          · have hBp := hB p hp hin
            rw [show (if p < k + 1 then bUp (bpM m0 p) (w32 (cm + footV g p f (g (28 + p)).toNat)) f else bpM m0 p) = (if p < k then bUp (bpM m0 p) (w32 (cm + footV g p f (g (28 + p)).toNat)) f else bpM m0 p) by
              by_cases q : p < k
              · rw [if_pos q, if_pos (by omega)]
              · rw [if_neg q, if_neg (by omega)]]
            rw [← hBp]
            show ((up (up M 69 k _) 70 k _) 69 p, (up (up M 69 k _) 70 k _) 70 p) = (M 69 p, M 70 p)
            rw [up_o _ _ (by decide), up_k _ _ e, up_k _ _ e, up_o _ _ (by decide)]
set_option maxRecDepth 4000 in
theorem p_X3_offerStop {Γ : Gm} {d : Nat} {m : Mem} (g : Row) (l f : Nat) (cm : Int) (hI : HI g) (hl : (l : Int) < g 2) (hH : HouR g m 33) (hN : NowR g m 44) (hfF : (f : Int) < g 1) (hC : m 71 6 = cm) (hf : m 71 2 = f) : Ci Γ (d + 1) MX3_offerStop [rv 68, iv l] m (fun r m' => (∀ p : Nat, (p : Int) < g 3 → g (88 + p) = l → bpM m' p = bUp (bpM m p) (w32 (cm + footV g p f (g (28 + p)).toNat)) f) ∧ (∀ a, a ≠ 69 → a ≠ 70 → m' a = m a)) := by
  refine Ci.of moX3_offerStop rfl rfl (fun hA hM => ?_)
  show Em Γ (d + 1) MX3_offerStop _ 0 [rv 68, iv l, uv, uv] [] m
  refine Ev.iconst (q := 1) dX3_offerStop_0 ki_0 rfl ?_
  refine istore_n_2 (q := 2) dX3_offerStop_1 rfl rfl rfl ?_
  exact l_offerStop g l hI hl hH hN f cm hfF hC hf (g 3).toNat 0 m uv (by have := hI.2.2.1; omega) (fun p hp hin => by rw [if_neg (by omega)]) (fun a _ _ => rfl)
set_option maxRecDepth 4000 in
theorem l_addUp {Γ : Gm} {d : Nat} {m0 : Mem} (g : Row) (l : Nat) (hI : HI g) (hl : (l : Int) < g 2) (hH : HouR g m0 33) (hN : NowR g m0 44) (lit : Nat) (hB : inB g l lit m0) : ∀ (q k : Nat) (M : Mem), k + q = (g 3).toNat → M 68 5 = sumN g l lit k → M 68 6 = latN g l lit k → (∀ a, a ≠ 68 → M a = m0 a) → Em Γ (d + 1) MX3_addUp (fun r m' => m' 68 5 = sumV g l lit ∧ m' 68 6 = latV g l lit ∧ (∀ a, a ≠ 68 → m' a = m0 a)) 12 [rv 68, iv l, iv k] [] M := by
  have hF12 := hI.1
  have hP8 := hI.2.2.1
  have hL3 := hI.2.1
  intro q
  induction q with
  | zero =>
    intro k M hk h5 h6 hF
    have e33 : M 33 3 = g 3 := by rw [hF 33 (by decide)]; exact hH.n0.2.2.2
    refine Ev.iload_n (q := 13) dX3_addUp_12 rfl rfl ?_
    refine Ev.aload_n (q := 14) dX3_addUp_13 rfl rfl ?_
    refine gR (q := 17) dX3_addUp_14 gfX3_32 k68 r68_0 rfl rfl ?_
    refine gI (q := 20) dX3_addUp_17 gfX3_56 k33 rfl rfl ?_
    rw [e33]
    refine Ev.icmp_ge (tgt := 86) (q := 23) dX3_addUp_20 (by decide) rfl (fun h1 => ?_) (fun h1 => ?_)
    · skip
      refine rV dX3_addUp_86 rfl ?_
      exact ⟨by unfold sumV; rw [show (g 3).toNat = k by omega]; exact h5, by unfold latV; rw [show (g 3).toNat = k by omega]; exact h6, hF⟩
    · skip
      omega
  | succ q ih =>
    intro k M hk h5 h6 hF
    have e33 : M 33 3 = g 3 := by rw [hF 33 (by decide)]; exact hH.n0.2.2.2
    have eIn : M 51 k = g (88 + k) := by rw [hF 51 (by decide)]; exact (hN.2 k (by omega)).2.2
    have eW : M 39 k = g (52 + k) := by rw [hF 39 (by decide)]; exact (hH.ho (by omega)).2.2.2
    refine Ev.iload_n (q := 13) dX3_addUp_12 rfl rfl ?_
    refine Ev.aload_n (q := 14) dX3_addUp_13 rfl rfl ?_
    refine gR (q := 17) dX3_addUp_14 gfX3_32 k68 r68_0 rfl rfl ?_
    refine gI (q := 20) dX3_addUp_17 gfX3_56 k33 rfl rfl ?_
    rw [e33]
    refine Ev.icmp_ge (tgt := 86) (q := 23) dX3_addUp_20 (by decide) rfl (fun h1 => ?_) (fun h1 => ?_)
    · skip
      omega
    · skip
      refine Ev.aload_n (q := 24) dX3_addUp_23 rfl rfl ?_
      refine gR (q := 27) dX3_addUp_24 gfX3_36 k68 r68_1 rfl rfl ?_
      refine gR (q := 30) dX3_addUp_27 gfX3_87 k44 r44_6 rfl rfl ?_
      refine Ev.iload_n (q := 31) dX3_addUp_30 rfl rfl ?_
      refine aI (q := 32) (k := k) dX3_addUp_31 k51 (by first | rfl | omega | (simp (disch := omega) only [w32_of]; omega)) (by omega) rfl ?_
      rw [eIn]
      refine Ev.iload_n (q := 33) dX3_addUp_32 rfl rfl ?_
      refine Ev.icmp_ne (tgt := 80) (q := 36) dX3_addUp_33 (by decide) rfl (fun h2 => ?_) (fun h2 => ?_)
      · skip
        refine iinc_2 (q := 83) dX3_addUp_80 rfl rfl rfl ?_
        refine Ev.goto (q := 12) dX3_addUp_83 (by decide) ?_
        rw [w32_of (by omega) (by omega)]
        refine ih (k + 1) M (by omega) ?_ ?_ hF
        · rw [h5]; conv => rhs; unfold sumN; rw [if_neg (by assumption)]
        · rw [h6]; conv => rhs; unfold latN; rw [if_neg (by assumption)]
      · skip
        have hin : g (88 + k) = l := by omega
        have hb := hB k (by omega) hin
        have eB : M 69 k = (bestV g k lit).1 := by rw [hF 69 (by decide), ← hb]; rfl
        refine Ev.aload_n (q := 37) dX3_addUp_36 rfl rfl ?_
        refine Ev.dup (q := 38) dX3_addUp_37 (fun z => by cases z) rfl ?_
        refine gJ (q := 41) dX3_addUp_38 gfX3_18 k68 rfl rfl ?_
        rw [h5]
        refine Ev.aload_n (q := 42) dX3_addUp_41 rfl rfl ?_
        refine gR (q := 45) dX3_addUp_42 gfX3_9 k68 r68_3 rfl rfl ?_
        refine Ev.iload_n (q := 46) dX3_addUp_45 rfl rfl ?_
        refine aI (q := 47) (k := k) dX3_addUp_46 k69 (by first | rfl | omega | (simp (disch := omega) only [w32_of]; omega)) (by omega) rfl ?_
        rw [eB]
        refine Ev.i2l (q := 48) dX3_addUp_47 rfl ?_
        refine Ev.aload_n (q := 49) dX3_addUp_48 rfl rfl ?_
        refine gR (q := 52) dX3_addUp_49 gfX3_32 k68 r68_0 rfl rfl ?_
        refine gR (q := 55) dX3_addUp_52 gfX3_90 k33 r33_9 rfl rfl ?_
        refine Ev.iload_n (q := 56) dX3_addUp_55 rfl rfl ?_
        refine aI (q := 57) (k := k) dX3_addUp_56 k39 (by first | rfl | omega | (simp (disch := omega) only [w32_of]; omega)) (by omega) rfl ?_
        rw [eW]
        refine Ev.i2l (q := 58) dX3_addUp_57 rfl ?_
        refine Ev.lmul (q := 59) dX3_addUp_58 rfl ?_
        refine Ev.ladd (q := 60) dX3_addUp_59 rfl ?_
        refine pJ (q := 63) dX3_addUp_60 gfX3_18 k68 rfl rfl ?_
        refine Ev.aload_n (q := 64) dX3_addUp_63 rfl rfl ?_
        refine Ev.aload_n (q := 65) dX3_addUp_64 rfl rfl ?_
        refine gI (q := 68) dX3_addUp_65 gfX3_22 k68 rfl rfl ?_
        rw [up_k _ _ (by decide), h6]
        refine Ev.aload_n (q := 69) dX3_addUp_68 rfl rfl ?_
        refine gR (q := 72) dX3_addUp_69 gfX3_9 k68 r68_3 rfl rfl ?_
        refine Ev.iload_n (q := 73) dX3_addUp_72 rfl rfl ?_
        refine aI (q := 74) (k := k) dX3_addUp_73 k69 (by first | rfl | omega | (simp (disch := omega) only [w32_of]; omega)) (by omega) rfl ?_
        rw [up_o _ _ (by decide), eB]
        refine cS2i (q := 77) (d' := d + 0) dX3_addUp_74 mlX3_93 moJ9_max_7cf53 msJ9_max_7cf53 rfl rfl (Nat.le_refl _) rfl rfl rfl (p_J9_max_7cf53 _ _) (fun r3 m3 e3 => ?_)
        obtain ⟨rfl, e3⟩ := e3
        obtain rfl := e3.symm
        refine pI (q := 80) dX3_addUp_77 gfX3_22 k68 rfl rfl ?_
        refine iinc_2 (q := 83) dX3_addUp_80 rfl rfl rfl ?_
        refine Ev.goto (q := 12) dX3_addUp_83 (by decide) ?_
        rw [w32_of (by omega) (by omega)]
        refine ih (k + 1) _ (by omega) ?_ ?_ (fun a h1 => by rw [up_na _ _ h1, up_na _ _ h1]; exact hF a h1)
        · rw [up_k _ _ (by decide), up_eq]; conv => rhs; unfold sumN; rw [if_pos hin]
        · rw [up_eq]; conv => rhs; unfold latN; rw [if_pos hin]
set_option maxRecDepth 4000 in
theorem p_X3_addUp {Γ : Gm} {d : Nat} {m : Mem} (g : Row) (l lit : Nat) (hI : HI g) (hl : (l : Int) < g 2) (hH : HouR g m 33) (hN : NowR g m 44) (hB : inB g l lit m) : Ci Γ (d + 1) MX3_addUp [rv 68, iv l] m (fun r m' => m' 68 5 = sumV g l lit ∧ m' 68 6 = latV g l lit ∧ (∀ a, a ≠ 68 → m' a = m a)) := by
  refine Ci.of moX3_addUp rfl rfl (fun hA hM => ?_)
  show Em Γ (d + 1) MX3_addUp _ 0 [rv 68, iv l, uv] [] m
  refine Ev.aload_n (q := 1) dX3_addUp_0 rfl rfl ?_
  refine Ev.lconst (q := 2) dX3_addUp_1 kj_0 rfl ?_
  refine pJ (q := 5) dX3_addUp_2 gfX3_18 k68 rfl rfl ?_
  refine Ev.aload_n (q := 6) dX3_addUp_5 rfl rfl ?_
  refine Ev.iconst (q := 7) dX3_addUp_6 ki_0 rfl ?_
  refine pI (q := 10) dX3_addUp_7 gfX3_22 k68 rfl rfl ?_
  refine Ev.iconst (q := 11) dX3_addUp_10 ki_0 rfl ?_
  refine istore_n_2 (q := 12) dX3_addUp_11 rfl rfl rfl ?_
  refine (l_addUp (m0 := up (up m 68 5 0) 68 6 0) g l hI hl (hH.keep (fun a h1 h2 => by rw [up_na _ _ (by omega), up_na _ _ (by omega)])) (hN.keep (fun a h1 h2 => by rw [up_na _ _ (by omega), up_na _ _ (by omega)])) lit (fun p hp hin => ?_) (g 3).toNat 0 _ (by have := hI.2.2.1; omega) (by rw [up_k _ _ (by decide), up_eq]; rfl) (by rw [up_eq]; rfl) (fun _ _ => rfl)).imp ?_
  · rw [← hB p hp hin]
    show ((up (up m 68 5 0) 68 6 0) 69 p, (up (up m 68 5 0) 68 6 0) 70 p) = (m 69 p, m 70 p)
    rw [up_o _ _ (by decide), up_o _ _ (by decide), up_o _ _ (by decide), up_o _ _ (by decide)]
  · intro v m' h9
    exact ⟨h9.1, h9.2.1, fun a h1 => by rw [h9.2.2 a h1, up_na _ _ h1, up_na _ _ h1]⟩
