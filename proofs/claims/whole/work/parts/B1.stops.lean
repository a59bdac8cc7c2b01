/-! ===== the class: how long lifts stop ===== -/
def sFp (a k : Nat) : Bool := decide (a = 13 ∨ (29 ≤ a ∧ a ≤ 32))
theorem sFp_t {a k : Nat} (h : a = 13 ∨ (29 ≤ a ∧ a ≤ 32)) : sFp a k = true := decide_eq_true h
theorem sFp_f {a k : Nat} (h : ¬ (a = 13 ∨ (29 ≤ a ∧ a ≤ 32))) : sFp a k = false := decide_eq_false h
theorem sFp_n {a k : Nat} (h : sFp a k = false) : ¬ (a = 13 ∨ (29 ≤ a ∧ a ≤ 32)) := of_decide_eq_false h
theorem Fr.scf {m m' : Mem} (h : Fr (sSc 29) m m') : Fr sFp m m' := h.mono (fun a k q => sSc_f (by have := sFp_n q; omega))
theorem Fr.fpp {m m' : Mem} (h : Fr sFp m m') : Fr sPc m m' := h.mono (fun a k q => sFp_f (by have := sPc_n q; omega))
set_option maxRecDepth 4000 in
theorem lc_stop1 {Γ : Gm} {d : Nat} {m0 : Mem} {Po : Int → Mem → Prop} (f : Row) (hH : RH f) (h9 : f 457 ≤ 900) (l i : Nat) (hl : (l : Int) < f 2) (hi : (i : Int) < f 1) (kont : ∀ (M : Mem) (v3 v4 : Vl), RC M f (f 2).toNat (f 3).toNat → STd M f l (i + 1) 1 → Fr sFp m0 M → Em Γ (d + 5) MX6_fillStops Po 88 [rv 2, iv l, iv i, v3, v4] [] M) : ∀ (q n : Nat) (M : Mem) (v4 : Vl), n + q = 12 → RC M f (f 2).toNat (f 3).toNat → STd M f l i n → Fr sFp m0 M → Em Γ (d + 5) MX6_fillStops Po 28 [rv 2, iv l, iv i, iv n, v4] [] M := by
  have hF12 := hH.1.1
  have hl3 := hH.1.2.1
  have h5x : f 5 = 0 ∨ f 5 = 1 := by
    rcases hH.2.2.2.2.2 1 (by decide) with z | ⟨z, -⟩
    · exact Or.inl z
    · exact Or.inr z
  intro q
  induction q with
  | zero =>
    intro n M v4 hn hR hSd hF
    refine Ev.iload_n (q := 29) dX6_fillStops_28 rfl rfl ?_
    refine Ev.bipush (q := 31) dX6_fillStops_29 kb_12 rfl ?_
    refine Ev.icmp_ge (tgt := 88) (q := 34) dX6_fillStops_31 (by decide) rfl (fun h1 => ?_) (fun h1 => ?_)
    · skip
      exact kont M _ _ hR (fun a b c z1 z2 z3 hq => hSd a b c z1 z2 z3 (by omega)) hF
    · skip
      omega
  | succ q ih =>
    intro n M v4 hn hR hSd hF
    have hT0 : M 29 0 = f 5 := hR.2.2.2.2.2.1
    refine Ev.iload_n (q := 29) dX6_fillStops_28 rfl rfl ?_
    refine Ev.bipush (q := 31) dX6_fillStops_29 kb_12 rfl ?_
    refine Ev.icmp_ge (tgt := 88) (q := 34) dX6_fillStops_31 (by decide) rfl (fun h1 => ?_) (fun h1 => ?_)
    · skip
      omega
    · skip
      refine Ev.aload_n (q := 35) dX6_fillStops_34 rfl rfl ?_
      refine gR (q := 38) dX6_fillStops_35 gfX6_50 k2 r2_7 rfl rfl ?_
      refine gI (q := 41) dX6_fillStops_38 gfX6_56 k29 rfl rfl ?_
      rw [hT0]
      refine Ev.if_eq (tgt := 54) (q := 44) dX6_fillStops_41 (by decide) rfl (fun h2 => ?_) (fun h2 => ?_)
      · skip
        have h50 : f 5 = 0 := by omega
        refine Ev.aload_n (q := 55) dX6_fillStops_54 rfl rfl ?_
        refine gR (q := 58) dX6_fillStops_55 gfX6_39 k2 r2_5 rfl rfl ?_
        refine Ev.iload_n (q := 59) dX6_fillStops_58 rfl rfl ?_
        refine aI (q := 60) (k := l) dX6_fillStops_59 k24 (by first | rfl | omega | (simp (disch := omega) only [w32_of]; omega)) (by omega) rfl ?_
        rw [(hR.2.2.1 l (by omega)).2.1]
        refine istore_4 (q := 62) dX6_fillStops_60 rfl rfl rfl ?_
        refine Ev.aload_n (q := 63) dX6_fillStops_62 rfl rfl ?_
        refine gR (q := 66) dX6_fillStops_63 gfX6_12 k2 r2_0 rfl rfl ?_
        refine gR (q := 69) dX6_fillStops_66 gfX6_282 k3 r3_13 rfl rfl ?_
        refine Ev.aload_n (q := 70) dX6_fillStops_69 rfl rfl ?_
        refine gR (q := 73) dX6_fillStops_70 gfX6_12 k2 r2_0 rfl rfl ?_
        refine Ev.iload_n (q := 74) dX6_fillStops_73 rfl rfl ?_
        refine Ev.iload_n (q := 75) dX6_fillStops_74 rfl rfl ?_
        refine Ev.iload_n (q := 76) dX6_fillStops_75 rfl rfl ?_
        refine cV3i (q := 79) (d' := d + 4) dX6_fillStops_76 mlX6_285 moX1_lastingAt mvX1_lastingAt k3 rfl rfl rfl (Nat.le_refl _) rfl rfl rfl (p_X1_lastingAt 3 l i n (by omega) (by omega) (by omega)) (fun r61 m61 e61 => ?_)
        obtain ⟨rfl, e61⟩ := e61
        obtain rfl := e61.symm
        refine Ev.iload (q := 81) dX6_fillStops_79 rfl rfl ?_
        refine sI (q := 82) (k := (l * 12 + i) * 12 + n) dX6_fillStops_81 k13 (by rfl) (by omega) rfl ?_
        refine iinc_3 (q := 85) dX6_fillStops_82 rfl rfl rfl ?_
        refine Ev.goto (q := 28) dX6_fillStops_85 (by decide) ?_
        rw [w32_of (by omega) (by omega)]
        exact ih (n + 1) _ _ (by omega) (hR.tab (by omega) _ _) (hSd.step hF12.2 (by omega) (by omega) (fun k hk => up_k _ _ hk) (by rw [up_eq]; unfold stopV; rw [if_pos h50])) ((hF).up (sFp_t (by omega)))
      · skip
        have h51 : f 5 = 1 := by omega
        refine Ev.aload_n (q := 45) dX6_fillStops_44 rfl rfl ?_
        refine Ev.iload_n (q := 46) dX6_fillStops_45 rfl rfl ?_
        refine Ev.iload_n (q := 47) dX6_fillStops_46 rfl rfl ?_
        refine Ev.iload_n (q := 48) dX6_fillStops_47 rfl rfl ?_
        refine cV3i (q := 51) (d' := d + 4) dX6_fillStops_48 mlX6_279 moX6_stopSeconds mvX6_stopSeconds k2 rfl rfl rfl (Nat.le_refl _) rfl rfl rfl (p_X6_stopSeconds f l i n hR hH h9 h51 (by omega) (by omega) (by omega)) (fun r3 m3 e3 => ?_)
        obtain ⟨M9, rfl⟩ : ∃ M9, M9 = m3 := ⟨_, rfl⟩
        obtain ⟨y9, hR9, f9⟩ := e3
        rw [y9]
        refine Ev.goto (q := 60) dX6_fillStops_51 (by decide) ?_
        refine istore_4 (q := 62) dX6_fillStops_60 rfl rfl rfl ?_
        refine Ev.aload_n (q := 63) dX6_fillStops_62 rfl rfl ?_
        refine gR (q := 66) dX6_fillStops_63 gfX6_12 k2 r2_0 rfl rfl ?_
        refine gR (q := 69) dX6_fillStops_66 gfX6_282 k3 r3_13 rfl rfl ?_
        refine Ev.aload_n (q := 70) dX6_fillStops_69 rfl rfl ?_
        refine gR (q := 73) dX6_fillStops_70 gfX6_12 k2 r2_0 rfl rfl ?_
        refine Ev.iload_n (q := 74) dX6_fillStops_73 rfl rfl ?_
        refine Ev.iload_n (q := 75) dX6_fillStops_74 rfl rfl ?_
        refine Ev.iload_n (q := 76) dX6_fillStops_75 rfl rfl ?_
        refine cV3i (q := 79) (d' := d + 4) dX6_fillStops_76 mlX6_285 moX1_lastingAt mvX1_lastingAt k3 rfl rfl rfl (Nat.le_refl _) rfl rfl rfl (p_X1_lastingAt 3 l i n (by omega) (by omega) (by omega)) (fun r61 m61 e61 => ?_)
        obtain ⟨rfl, e61⟩ := e61
        obtain rfl := e61.symm
        refine Ev.iload (q := 81) dX6_fillStops_79 rfl rfl ?_
        refine sI (q := 82) (k := (l * 12 + i) * 12 + n) dX6_fillStops_81 k13 (by rfl) (by omega) rfl ?_
        refine iinc_3 (q := 85) dX6_fillStops_82 rfl rfl rfl ?_
        refine Ev.goto (q := 28) dX6_fillStops_85 (by decide) ?_
        rw [w32_of (by omega) (by omega)]
        exact ih (n + 1) _ _ (by omega) (hR9.tab (by omega) _ _) (hSd.step hF12.2 (by omega) (by omega) (fun k hk => by rw [up_k _ _ hk, f9.row 13 (fun _ => sSc_f (by omega))]) (up_eq _ _ _ _)) ((hF.tr (f9.scf)).up (sFp_t (by omega)))
set_option maxRecDepth 4000 in
theorem lc_stop2 {Γ : Gm} {d : Nat} {m0 : Mem} {Po : Int → Mem → Prop} (f : Row) (hH : RH f) (h9 : f 457 ≤ 900) (l : Nat) (hl : (l : Int) < f 2) (kont : ∀ (M : Mem) (v2 v3 v4 : Vl), RC M f (f 2).toNat (f 3).toNat → STd M f (l + 1) 0 1 → Fr sFp m0 M → Em Γ (d + 5) MX6_fillStops Po 94 [rv 2, iv l, v2, v3, v4] [] M) : ∀ (q i : Nat) (M : Mem) (v3 v4 : Vl), (i : Int) + q = f 1 → RC M f (f 2).toNat (f 3).toNat → STd M f l i 1 → Fr sFp m0 M → Em Γ (d + 5) MX6_fillStops Po 15 [rv 2, iv l, iv i, v3, v4] [] M := by
  have hF12 := hH.1.1
  have hl3 := hH.1.2.1
  intro q
  induction q with
  | zero =>
    intro i M v3 v4 hi hR hSd hF
    refine Ev.iload_n (q := 16) dX6_fillStops_15 rfl rfl ?_
    refine Ev.aload_n (q := 17) dX6_fillStops_16 rfl rfl ?_
    refine gR (q := 20) dX6_fillStops_17 gfX6_12 k2 r2_0 rfl rfl ?_
    refine gI (q := 23) dX6_fillStops_20 gfX6_73 k3 rfl rfl ?_
    rw [hR.1.1]
    refine Ev.icmp_ge (tgt := 94) (q := 26) dX6_fillStops_23 (by decide) rfl (fun h1 => ?_) (fun h1 => ?_)
    · skip
      exact kont M _ _ _ hR (fun a b c z1 z2 z3 hq => hSd a b c z1 z2 z3 (by omega)) hF
    · skip
      omega
  | succ q ih =>
    intro i M v3 v4 hi hR hSd hF
    refine Ev.iload_n (q := 16) dX6_fillStops_15 rfl rfl ?_
    refine Ev.aload_n (q := 17) dX6_fillStops_16 rfl rfl ?_
    refine gR (q := 20) dX6_fillStops_17 gfX6_12 k2 r2_0 rfl rfl ?_
    refine gI (q := 23) dX6_fillStops_20 gfX6_73 k3 rfl rfl ?_
    rw [hR.1.1]
    refine Ev.icmp_ge (tgt := 94) (q := 26) dX6_fillStops_23 (by decide) rfl (fun h1 => ?_) (fun h1 => ?_)
    · skip
      omega
    · skip
      refine Ev.iconst (q := 27) dX6_fillStops_26 ki_1 rfl ?_
      refine istore_n_3 (q := 28) dX6_fillStops_27 rfl rfl rfl ?_
      refine lc_stop1 (m0 := m0) f hH h9 l i hl (by omega) (fun M9 w3 w4 hR9 hS9 hF9 => ?_) 11 1 M v4 (by omega) hR hSd hF
      refine iinc_2 (q := 91) dX6_fillStops_88 rfl rfl rfl ?_
      refine Ev.goto (q := 15) dX6_fillStops_91 (by decide) ?_
      rw [w32_of (by omega) (by omega)]
      exact ih (i + 1) M9 w3 w4 (by omega) hR9 hS9 hF9
set_option maxRecDepth 4000 in
theorem lc_stop3 {Γ : Gm} {d : Nat} {m0 : Mem} {Po : Int → Mem → Prop} (f : Row) (hH : RH f) (h9 : f 457 ≤ 900) (kont : ∀ (M : Mem), RC M f (f 2).toNat (f 3).toNat → STd M f (f 2).toNat 0 1 → Fr sFp m0 M → Po 0 M) : ∀ (q l : Nat) (M : Mem) (v2 v3 v4 : Vl), (l : Int) + q = f 2 → RC M f (f 2).toNat (f 3).toNat → STd M f l 0 1 → Fr sFp m0 M → Em Γ (d + 5) MX6_fillStops Po 2 [rv 2, iv l, v2, v3, v4] [] M := by
  have hF12 := hH.1.1
  have hl3 := hH.1.2.1
  intro q
  induction q with
  | zero =>
    intro l M v2 v3 v4 hl hR hSd hF
    refine Ev.iload_n (q := 3) dX6_fillStops_2 rfl rfl ?_
    refine Ev.aload_n (q := 4) dX6_fillStops_3 rfl rfl ?_
    refine gR (q := 7) dX6_fillStops_4 gfX6_12 k2 r2_0 rfl rfl ?_
    refine gI (q := 10) dX6_fillStops_7 gfX6_129 k3 rfl rfl ?_
    rw [hR.1.2.2.1]
    refine Ev.icmp_ge (tgt := 100) (q := 13) dX6_fillStops_10 (by decide) rfl (fun h1 => ?_) (fun h1 => ?_)
    · skip
      refine rV dX6_fillStops_100 rfl ?_
      exact kont M hR (fun a b c z1 z2 z3 hq => hSd a b c z1 z2 z3 (by omega)) hF
    · skip
      omega
  | succ q ih =>
    intro l M v2 v3 v4 hl hR hSd hF
    refine Ev.iload_n (q := 3) dX6_fillStops_2 rfl rfl ?_
    refine Ev.aload_n (q := 4) dX6_fillStops_3 rfl rfl ?_
    refine gR (q := 7) dX6_fillStops_4 gfX6_12 k2 r2_0 rfl rfl ?_
    refine gI (q := 10) dX6_fillStops_7 gfX6_129 k3 rfl rfl ?_
    rw [hR.1.2.2.1]
    refine Ev.icmp_ge (tgt := 100) (q := 13) dX6_fillStops_10 (by decide) rfl (fun h1 => ?_) (fun h1 => ?_)
    · skip
      omega
    · skip
      refine Ev.iconst (q := 14) dX6_fillStops_13 ki_0 rfl ?_
      refine istore_n_2 (q := 15) dX6_fillStops_14 rfl rfl rfl ?_
      refine lc_stop2 (m0 := m0) f hH h9 l (by omega) (fun M9 w2 w3 w4 hR9 hS9 hF9 => ?_) (f 1).toNat 0 M v3 v4 (by omega) hR hSd hF
      refine iinc_1 (q := 97) dX6_fillStops_94 rfl rfl rfl ?_
      refine Ev.goto (q := 2) dX6_fillStops_97 (by decide) ?_
      rw [w32_of (by omega) (by omega)]
      exact ih (l + 1) M9 w2 w3 w4 (by omega) hR9 hS9 hF9

set_option maxRecDepth 4000 in
theorem p_X6_fillStops {Γ : Gm} {d : Nat} {m : Mem} (f : Row) (hR : RC m f (f 2).toNat (f 3).toNat) (hH : RH f) (h9 : f 457 ≤ 900) : Ci Γ (d + 5) MX6_fillStops [rv 2] m (fun r m' => RC m' f (f 2).toNat (f 3).toNat ∧ STd m' f (f 2).toNat 0 1 ∧ Fr sFp m m') := by
  refine Ci.of moX6_fillStops rfl rfl (fun hA hM => ?_)
  show Em Γ (d + 5) MX6_fillStops _ 0 [rv 2, uv, uv, uv, uv] [] m
  have hl3 := hH.1.2.1
  refine Ev.iconst (q := 1) dX6_fillStops_0 ki_0 rfl ?_
  refine istore_n_1 (q := 2) dX6_fillStops_1 rfl rfl rfl ?_
  exact lc_stop3 (m0 := m) f hH h9 (fun M q1 q2 q3 => ⟨q1, q2, q3⟩) (f 2).toNat 0 m uv uv uv (by omega) hR (fun a b c _ _ _ hq => by omega) (Fr.rf _ _)
