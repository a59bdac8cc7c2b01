/-! ===== the class: feet, copies ===== -/
set_option maxRecDepth 4000 in
theorem l_onFoot2 {Γ : Gm} {d : Nat} {m : Mem} (g : Row) (h p f t F : Nat) (hh : h ∈ houC) (hp : p < 8) (hF12 : F ≤ 12) (hf : f < F) (ht : t < F) (hU : ∀ i : Nat, i < F → m (h + 7) (p * 12 + i) = stepV g p i 1 ∧ m (h + 8) (p * 12 + i) = stepV g p i 0) (htf : t ≤ f) (hR : footV g p f t = footDn g p f (f - t)) : ∀ (n j : Nat), j + n = f - t → Em Γ (d + 0) MX1_onFoot (fun r m' => r = footV g p f t ∧ m' = m) 38 [rv h, iv p, iv f, iv t, iv (footDn g p f j), iv ((f : Int) - (j : Int))] [] m := by
  obtain ⟨hoK, ⟨hor0, hor1, hor2, hor3, hor4, hor5, hor6, hor7, hor8, hor9⟩, hoK0, hoK1, hoK2, hoK3, hoK4, hoK5, hoK6, hoK7, hoK8, hoK9, hoN⟩ := houK h hh
  intro n
  induction n with
  | zero =>
    intro j hj
    obtain rfl : j = f - t := by omega
    refine Ev.iload (q := 40) dX1_onFoot_38 rfl rfl ?_
    refine Ev.iload_n (q := 41) dX1_onFoot_40 rfl rfl ?_
    refine Ev.icmp_le (tgt := 67) (q := 44) dX1_onFoot_41 (by decide) rfl (fun h1 => ?_) (fun h1 => ?_)
    · skip
      refine Ev.iload (q := 69) dX1_onFoot_67 rfl rfl ?_
      refine rI dX1_onFoot_69 rfl ?_
      exact ⟨hR.symm, rfl⟩
    · skip
      omega
  | succ n ih =>
    intro j hj
    rw [show ((f : Int) - (j : Int)) = ((f - j : Nat) : Int) by omega]
    refine Ev.iload (q := 40) dX1_onFoot_38 rfl rfl ?_
    refine Ev.iload_n (q := 41) dX1_onFoot_40 rfl rfl ?_
    refine Ev.icmp_le (tgt := 67) (q := 44) dX1_onFoot_41 (by decide) rfl (fun h1 => ?_) (fun h1 => ?_)
    · skip
      omega
    · skip
      refine Ev.iload (q := 46) dX1_onFoot_44 rfl rfl ?_
      refine Ev.aload_n (q := 47) dX1_onFoot_46 rfl rfl ?_
      refine gR (q := 50) dX1_onFoot_47 gfX1_46 hoK hor7 rfl rfl ?_
      refine Ev.iload_n (q := 51) dX1_onFoot_50 rfl rfl ?_
      refine Ev.bipush (q := 53) dX1_onFoot_51 kb_12 rfl ?_
      refine Ev.imul (q := 54) dX1_onFoot_53 rfl ?_
      refine Ev.iload (q := 56) dX1_onFoot_54 rfl rfl ?_
      refine Ev.iadd (q := 57) dX1_onFoot_56 rfl ?_
      refine aI (q := 58) (k := p * 12 + (f - j)) dX1_onFoot_57 hoK7 (by rw [w32_of (z := (p : Int) * 12) (by omega) (by omega), w32_of (by omega) (by omega)]; omega) (by omega) rfl ?_
      rw [(hU (f - j) (by omega)).2]
      refine Ev.iadd (q := 59) dX1_onFoot_58 rfl ?_
      refine istore_4 (q := 61) dX1_onFoot_59 rfl rfl rfl ?_
      refine iinc_5 (q := 64) dX1_onFoot_61 rfl rfl rfl ?_
      refine Ev.goto (q := 38) dX1_onFoot_64 (by decide) ?_
      have b1 := footDn_bd g p f j
      have b2 := stepV_bd g p (f - j) 0
      rw [w32_of (by omega) (by omega), w32_of (by omega) (by omega)]
      have e1 : footDn g p f j + stepV g p (f - j) 0 = footDn g p f (j + 1) := rfl
      rw [e1, show (((f - j : Nat) : Int) + -1) = (f : Int) - ((j + 1 : Nat) : Int) by omega]
      exact ih (j + 1) (by omega)
set_option maxRecDepth 4000 in
theorem l_onFoot1 {Γ : Gm} {d : Nat} {m : Mem} (g : Row) (h p f t F : Nat) (hh : h ∈ houC) (hp : p < 8) (hF12 : F ≤ 12) (hf : f < F) (ht : t < F) (hU : ∀ i : Nat, i < F → m (h + 7) (p * 12 + i) = stepV g p i 1 ∧ m (h + 8) (p * 12 + i) = stepV g p i 0) (hft : f < t) : ∀ (n j : Nat), j + n = t - f → Em Γ (d + 0) MX1_onFoot (fun r m' => r = footV g p f t ∧ m' = m) 6 [rv h, iv p, iv f, iv t, iv (footUp g p f j), iv ((f + j : Nat) : Int)] [] m := by
  obtain ⟨hoK, ⟨hor0, hor1, hor2, hor3, hor4, hor5, hor6, hor7, hor8, hor9⟩, hoK0, hoK1, hoK2, hoK3, hoK4, hoK5, hoK6, hoK7, hoK8, hoK9, hoN⟩ := houK h hh
  intro n
  induction n with
  | zero =>
    intro j hj
    obtain rfl : j = t - f := by omega
    refine Ev.iload (q := 8) dX1_onFoot_6 rfl rfl ?_
    refine Ev.iload_n (q := 9) dX1_onFoot_8 rfl rfl ?_
    refine Ev.icmp_ge (tgt := 35) (q := 12) dX1_onFoot_9 (by decide) rfl (fun h1 => ?_) (fun h1 => ?_)
    · skip
      refine Ev.iload_n (q := 36) dX1_onFoot_35 rfl rfl ?_
      refine istore_5 (q := 38) dX1_onFoot_36 rfl rfl rfl ?_
      refine Ev.iload (q := 40) dX1_onFoot_38 rfl rfl ?_
      refine Ev.iload_n (q := 41) dX1_onFoot_40 rfl rfl ?_
      refine Ev.icmp_le (tgt := 67) (q := 44) dX1_onFoot_41 (by decide) rfl (fun h2 => ?_) (fun h2 => ?_)
      · skip
        refine Ev.iload (q := 69) dX1_onFoot_67 rfl rfl ?_
        refine rI dX1_onFoot_69 rfl ?_
        exact ⟨by unfold footV; rw [if_pos hft], rfl⟩
      · skip
        omega
    · skip
      omega
  | succ n ih =>
    intro j hj
    refine Ev.iload (q := 8) dX1_onFoot_6 rfl rfl ?_
    refine Ev.iload_n (q := 9) dX1_onFoot_8 rfl rfl ?_
    refine Ev.icmp_ge (tgt := 35) (q := 12) dX1_onFoot_9 (by decide) rfl (fun h1 => ?_) (fun h1 => ?_)
    · skip
      omega
    · skip
      refine Ev.iload (q := 14) dX1_onFoot_12 rfl rfl ?_
      refine Ev.aload_n (q := 15) dX1_onFoot_14 rfl rfl ?_
      refine gR (q := 18) dX1_onFoot_15 gfX1_43 hoK hor6 rfl rfl ?_
      refine Ev.iload_n (q := 19) dX1_onFoot_18 rfl rfl ?_
      refine Ev.bipush (q := 21) dX1_onFoot_19 kb_12 rfl ?_
      refine Ev.imul (q := 22) dX1_onFoot_21 rfl ?_
      refine Ev.iload (q := 24) dX1_onFoot_22 rfl rfl ?_
      refine Ev.iadd (q := 25) dX1_onFoot_24 rfl ?_
      refine aI (q := 26) (k := p * 12 + (f + j)) dX1_onFoot_25 hoK6 (by rw [w32_of (z := (p : Int) * 12) (by omega) (by omega), w32_of (by omega) (by omega)]; omega) (by omega) rfl ?_
      rw [(hU (f + j) (by omega)).1]
      refine Ev.iadd (q := 27) dX1_onFoot_26 rfl ?_
      refine istore_4 (q := 29) dX1_onFoot_27 rfl rfl rfl ?_
      refine iinc_5 (q := 32) dX1_onFoot_29 rfl rfl rfl ?_
      refine Ev.goto (q := 6) dX1_onFoot_32 (by decide) ?_
      have b1 := footUp_bd g p f j
      have b2 := stepV_bd g p (f + j) 1
      rw [w32_of (by omega) (by omega), w32_of (by omega) (by omega)]
      have e1 : footUp g p f j + stepV g p (f + j) 1 = footUp g p f (j + 1) := rfl
      rw [e1, show (((f + j : Nat) : Int) + 1) = ((f + (j + 1) : Nat) : Int) by omega]
      exact ih (j + 1) (by omega)
set_option maxRecDepth 4000 in
theorem p_X1_onFoot {Γ : Gm} {d : Nat} {m : Mem} (g : Row) (h p f t F : Nat)  (hh : h ∈ houC) (hp : p < 8) (hF12 : F ≤ 12) (hf : f < F) (ht : t < F) (hU : ∀ i : Nat, i < F → m (h + 7) (p * 12 + i) = stepV g p i 1 ∧ m (h + 8) (p * 12 + i) = stepV g p i 0)  : Ci Γ (d + 0) MX1_onFoot [rv h, iv p, iv f, iv t] m (fun r m' => r = footV g p f t ∧ m' = m) := by
  refine Ci.of moX1_onFoot rfl rfl (fun hA hM => ?_)
  show Em Γ (d + 0) MX1_onFoot _ 0 [rv h, iv p, iv f, iv t, uv, uv] [] m
  obtain ⟨hoK, ⟨hor0, hor1, hor2, hor3, hor4, hor5, hor6, hor7, hor8, hor9⟩, hoK0, hoK1, hoK2, hoK3, hoK4, hoK5, hoK6, hoK7, hoK8, hoK9, hoN⟩ := houK h hh
  refine Ev.iconst (q := 1) dX1_onFoot_0 ki_0 rfl ?_
  refine istore_4 (q := 3) dX1_onFoot_1 rfl rfl rfl ?_
  refine Ev.iload_n (q := 4) dX1_onFoot_3 rfl rfl ?_
  refine istore_5 (q := 6) dX1_onFoot_4 rfl rfl rfl ?_
  by_cases hft : f < t
  · exact l_onFoot1 g h p f t F hh hp hF12 hf ht hU hft (t - f) 0 (by omega)
  · refine Ev.iload (q := 8) dX1_onFoot_6 rfl rfl ?_
    refine Ev.iload_n (q := 9) dX1_onFoot_8 rfl rfl ?_
    refine Ev.icmp_ge (tgt := 35) (q := 12) dX1_onFoot_9 (by decide) rfl (fun h1 => ?_) (fun h1 => ?_)
    · skip
      refine Ev.iload_n (q := 36) dX1_onFoot_35 rfl rfl ?_
      refine istore_5 (q := 38) dX1_onFoot_36 rfl rfl rfl ?_
      have hk := l_onFoot2 (Γ := Γ) (d := d) g h p f t F hh hp hF12 hf ht hU (by omega) (by unfold footV; rw [if_neg hft]) (f - t) 0 (by omega)
      rw [show (f : Int) - ((0 : Nat) : Int) = (f : Int) by omega] at hk
      exact hk
    · skip
      omega
theorem HouR.calls {g : Row} {m : Mem} (h : HouR g m 33) {f : Nat} (hf : f < 12) : m 34 f = g (10 + f) := h.2.1 f hf
theorem dst_comm (a b : Nat) : dst a b = dst b a := by unfold dst; split <;> split <;> omega
theorem awy_mul {a : Nat} {b : Int} (ha : a ≤ 11) (hb : 0 ≤ b ∧ b ≤ 99) : 0 ≤ (a : Int) * b ∧ (a : Int) * b ≤ 1089 := by
  refine ⟨Int.mul_nonneg (by omega) hb.1, ?_⟩
  have h1 : (a : Int) * b ≤ 11 * b := Int.mul_le_mul_of_nonneg_right (by omega) hb.1
  omega
set_option maxRecDepth 4000 in
theorem l_floorsAway {Γ : Gm} {d : Nat} {m : Mem} (g : Row) (f : Nat) (hf : f < 12) (hI : HI g) (hH : HouR g m 33) : ∀ (n k : Nat), k + n = (g 1).toNat → Em Γ (d + 1) MX1_floorsAway (fun r m' => r = awyV g f ∧ m' = m) 4 [rv 33, iv f, iv (awy g f k), iv k] [] m := by
  obtain ⟨n0, -, -, -⟩ := hH.n0
  have hF12 := hI.1
  intro n
  induction n with
  | zero =>
    intro k hk
    refine Ev.iload_n (q := 5) dX1_floorsAway_4 rfl rfl ?_
    refine Ev.aload_n (q := 6) dX1_floorsAway_5 rfl rfl ?_
    refine gI (q := 9) dX1_floorsAway_6 gfX1_9 k33 rfl rfl ?_
    rw [n0]
    refine Ev.icmp_ge (tgt := 34) (q := 12) dX1_floorsAway_9 (by decide) rfl (fun h1 => ?_) (fun h1 => ?_)
    · skip
      refine Ev.iload_n (q := 35) dX1_floorsAway_34 rfl rfl ?_
      refine rI dX1_floorsAway_35 rfl ?_
      exact ⟨by unfold awyV; rw [show (g 1).toNat = k by omega], rfl⟩
    · skip
      omega
  | succ n ih =>
    intro k hk
    refine Ev.iload_n (q := 5) dX1_floorsAway_4 rfl rfl ?_
    refine Ev.aload_n (q := 6) dX1_floorsAway_5 rfl rfl ?_
    refine gI (q := 9) dX1_floorsAway_6 gfX1_9 k33 rfl rfl ?_
    rw [n0]
    refine Ev.icmp_ge (tgt := 34) (q := 12) dX1_floorsAway_9 (by decide) rfl (fun h1 => ?_) (fun h1 => ?_)
    · skip
      omega
    · skip
      refine Ev.iload_n (q := 13) dX1_floorsAway_12 rfl rfl ?_
      refine Ev.aload_n (q := 14) dX1_floorsAway_13 rfl rfl ?_
      refine gR (q := 17) dX1_floorsAway_14 gfX1_24 k33 r33_4 rfl rfl ?_
      refine Ev.iload_n (q := 18) dX1_floorsAway_17 rfl rfl ?_
      refine aI (q := 19) (k := k) dX1_floorsAway_18 k34 (by first | rfl | omega | (simp (disch := omega) only [w32_of]; omega)) (by omega) rfl ?_
      rw [hH.calls (by omega)]
      refine Ev.iload_n (q := 20) dX1_floorsAway_19 rfl rfl ?_
      refine Ev.iload_n (q := 21) dX1_floorsAway_20 rfl rfl ?_
      refine Ev.isub (q := 22) dX1_floorsAway_21 rfl ?_
      refine cS1i (q := 25) (d' := d + 0) dX1_floorsAway_22 mlX1_71 moJ9_abs_0f7a4 msJ9_abs_0f7a4 rfl rfl (Nat.le_refl _) rfl rfl rfl (p_J9_abs_0f7a4 _) (fun r2 m2 e2 => ?_)
      obtain ⟨rfl, e2⟩ := e2
      obtain rfl := e2.symm
      rw [dabs (by omega) (by omega), dst_comm]
      refine Ev.imul (q := 26) dX1_floorsAway_25 rfl ?_
      refine Ev.iadd (q := 27) dX1_floorsAway_26 rfl ?_
      refine istore_n_2 (q := 28) dX1_floorsAway_27 rfl rfl rfl ?_
      refine iinc_3 (q := 31) dX1_floorsAway_28 rfl rfl rfl ?_
      refine Ev.goto (q := 4) dX1_floorsAway_31 (by decide) ?_
      have b1 := awy_bd (g := g) hf hI.2.2.2.2.2.2.2 k (by omega)
      have b2 := hI.2.2.2.2.2.2.2 k (by omega)
      have b3 := dst_le hf (show k < 12 by omega)
      have b4 := awy_mul b3 b2
      rw [Int.mul_comm (g (10 + k)), w32_of (z := (dst f k : Int) * g (10 + k)) (by omega) (by omega), w32_of (by omega) (by omega), w32_of (by omega) (by omega)]
      exact ih (k + 1) (by omega)
set_option maxRecDepth 4000 in
theorem p_X1_floorsAway {Γ : Gm} {d : Nat} {m : Mem} (g : Row) (f : Nat) (hf : f < 12) (hI : HI g) (hH : HouR g m 33) : Ci Γ (d + 1) MX1_floorsAway [rv 33, iv f] m (fun r m' => r = awyV g f ∧ m' = m) := by
  refine Ci.of moX1_floorsAway rfl rfl (fun hA hM => ?_)
  show Em Γ (d + 1) MX1_floorsAway _ 0 [rv 33, iv f, uv, uv] [] m
  refine Ev.iconst (q := 1) dX1_floorsAway_0 ki_0 rfl ?_
  refine istore_n_2 (q := 2) dX1_floorsAway_1 rfl rfl rfl ?_
  refine Ev.iconst (q := 3) dX1_floorsAway_2 ki_0 rfl ?_
  refine istore_n_3 (q := 4) dX1_floorsAway_3 rfl rfl rfl ?_
  exact l_floorsAway g f hf hI hH (g 1).toNat 0 (by omega)
theorem nowD : ∀ n ∈ nowC, ∀ o ∈ nowC, n ≠ o → n + 7 < o ∨ o + 7 < n := by decide +kernel
theorem houD : ∀ n ∈ houC, ∀ o ∈ houC, n ≠ o → n + 10 < o ∨ o + 10 < n := by decide +kernel
def sN (n a _k : Nat) : Bool := decide (n < a ∧ a ≤ n + 7)
def sH (n a _k : Nat) : Bool := decide (n ≤ a ∧ a ≤ n + 10)
theorem sN_f {n a k : Nat} (h : ¬ (n < a ∧ a ≤ n + 7)) : sN n a k = false := decide_eq_false h
theorem sH_f {n a k : Nat} (h : ¬ (n ≤ a ∧ a ≤ n + 10)) : sH n a k = false := decide_eq_false h
theorem sN_n {n a k : Nat} (h : sN n a k = false) : ¬ (n < a ∧ a ≤ n + 7) := of_decide_eq_false h
theorem sH_n {n a k : Nat} (h : sH n a k = false) : ¬ (n ≤ a ∧ a ≤ n + 10) := of_decide_eq_false h
theorem Fr.cpm {s : Nat → Nat → Bool} {m m' : Mem} {a b n : Nat} (h : Fr s m m') (hs : ∀ k, s b k = true) : Fr s m (cpm m' a 0 b 0 n) := by
  intro c j q
  rw [cpm_o (fun z => by rw [z, hs j] at q; cases q)]
  exact h c j q
def nlen (i : Nat) : Nat := if i ≤ 4 then 3 else 8
def hlen (i : Nat) : Nat := if i = 1 then 12 else if i = 2 then 3 else if i ≤ 6 then 8 else if i ≤ 9 then 96 else 432
set_option maxRecDepth 4000 in
theorem p_X4_copyFrom {Γ : Gm} {d : Nat} {m : Mem} (n o : Nat) (hn : n ∈ nowC) (ho : o ∈ nowC) (hno : n ≠ o) : Ci Γ (d + 1) MX4_copyFrom [rv n, rv o] m (fun r m' => (∀ i, 1 ≤ i → i ≤ 7 → ∀ k, k < nlen i → m' (n + i) k = m (o + i) k) ∧ Fr (sN n) m m') := by
  refine Ci.of moX4_copyFrom rfl rfl (fun hA hM => ?_)
  show Em Γ (d + 1) MX4_copyFrom _ 0 [rv n, rv o] [] m
  obtain ⟨nwK, ⟨nwr0, nwr1, nwr2, nwr3, nwr4, nwr5, nwr6⟩, nwK0, nwK1, nwK2, nwK3, nwK4, nwK5, nwK6, nwN⟩ := nowK n hn
  obtain ⟨owK, ⟨owr0, owr1, owr2, owr3, owr4, owr5, owr6⟩, owK0, owK1, owK2, owK3, owK4, owK5, owK6, owN⟩ := nowK o ho
  have hD := nowD n hn o ho hno
  refine Ev.aload_n (q := 1) dX4_copyFrom_0 rfl rfl ?_
  refine gR (q := 4) dX4_copyFrom_1 gfX4_9 owK owr0 rfl rfl ?_
  refine Ev.iconst (q := 5) dX4_copyFrom_4 ki_0 rfl ?_
  refine Ev.aload_n (q := 6) dX4_copyFrom_5 rfl rfl ?_
  refine gR (q := 9) dX4_copyFrom_6 gfX4_9 nwK nwr0 rfl rfl ?_
  refine Ev.iconst (q := 10) dX4_copyFrom_9 ki_0 rfl ?_
  refine Ev.iconst (q := 11) dX4_copyFrom_10 ki_3 rfl ?_
  refine copyI (q := 14) (n := 3) dX4_copyFrom_11 acX4 owK0 nwK0 (by decide) (by decide) (by decide) (by omega) rfl rfl ?_
  refine Ev.aload_n (q := 15) dX4_copyFrom_14 rfl rfl ?_
  refine gR (q := 18) dX4_copyFrom_15 gfX4_15 owK owr1 rfl rfl ?_
  refine Ev.iconst (q := 19) dX4_copyFrom_18 ki_0 rfl ?_
  refine Ev.aload_n (q := 20) dX4_copyFrom_19 rfl rfl ?_
  refine gR (q := 23) dX4_copyFrom_20 gfX4_15 nwK nwr1 rfl rfl ?_
  refine Ev.iconst (q := 24) dX4_copyFrom_23 ki_0 rfl ?_
  refine Ev.iconst (q := 25) dX4_copyFrom_24 ki_3 rfl ?_
  refine copyI (q := 28) (n := 3) dX4_copyFrom_25 acX4 owK1 nwK1 (by decide) (by decide) (by decide) (by omega) rfl rfl ?_
  refine Ev.aload_n (q := 29) dX4_copyFrom_28 rfl rfl ?_
  refine gR (q := 32) dX4_copyFrom_29 gfX4_18 owK owr2 rfl rfl ?_
  refine Ev.iconst (q := 33) dX4_copyFrom_32 ki_0 rfl ?_
  refine Ev.aload_n (q := 34) dX4_copyFrom_33 rfl rfl ?_
  refine gR (q := 37) dX4_copyFrom_34 gfX4_18 nwK nwr2 rfl rfl ?_
  refine Ev.iconst (q := 38) dX4_copyFrom_37 ki_0 rfl ?_
  refine Ev.iconst (q := 39) dX4_copyFrom_38 ki_3 rfl ?_
  refine copyI (q := 42) (n := 3) dX4_copyFrom_39 acX4 owK2 nwK2 (by decide) (by decide) (by decide) (by omega) rfl rfl ?_
  refine Ev.aload_n (q := 43) dX4_copyFrom_42 rfl rfl ?_
  refine gR (q := 46) dX4_copyFrom_43 gfX4_21 owK owr3 rfl rfl ?_
  refine Ev.iconst (q := 47) dX4_copyFrom_46 ki_0 rfl ?_
  refine Ev.aload_n (q := 48) dX4_copyFrom_47 rfl rfl ?_
  refine gR (q := 51) dX4_copyFrom_48 gfX4_21 nwK nwr3 rfl rfl ?_
  refine Ev.iconst (q := 52) dX4_copyFrom_51 ki_0 rfl ?_
  refine Ev.iconst (q := 53) dX4_copyFrom_52 ki_3 rfl ?_
  refine copyI (q := 56) (n := 3) dX4_copyFrom_53 acX4 owK3 nwK3 (by decide) (by decide) (by decide) (by omega) rfl rfl ?_
  refine Ev.aload_n (q := 57) dX4_copyFrom_56 rfl rfl ?_
  refine gR (q := 60) dX4_copyFrom_57 gfX4_24 owK owr4 rfl rfl ?_
  refine Ev.iconst (q := 61) dX4_copyFrom_60 ki_0 rfl ?_
  refine Ev.aload_n (q := 62) dX4_copyFrom_61 rfl rfl ?_
  refine gR (q := 65) dX4_copyFrom_62 gfX4_24 nwK nwr4 rfl rfl ?_
  refine Ev.iconst (q := 66) dX4_copyFrom_65 ki_0 rfl ?_
  refine Ev.bipush (q := 68) dX4_copyFrom_66 kb_8 rfl ?_
  refine copyI (q := 71) (n := 8) dX4_copyFrom_68 acX4 owK4 nwK4 (by decide) (by decide) (by decide) (by omega) rfl rfl ?_
  refine Ev.aload_n (q := 72) dX4_copyFrom_71 rfl rfl ?_
  refine gR (q := 75) dX4_copyFrom_72 gfX4_27 owK owr5 rfl rfl ?_
  refine Ev.iconst (q := 76) dX4_copyFrom_75 ki_0 rfl ?_
  refine Ev.aload_n (q := 77) dX4_copyFrom_76 rfl rfl ?_
  refine gR (q := 80) dX4_copyFrom_77 gfX4_27 nwK nwr5 rfl rfl ?_
  refine Ev.iconst (q := 81) dX4_copyFrom_80 ki_0 rfl ?_
  refine Ev.bipush (q := 83) dX4_copyFrom_81 kb_8 rfl ?_
  refine copyI (q := 86) (n := 8) dX4_copyFrom_83 acX4 owK5 nwK5 (by decide) (by decide) (by decide) (by omega) rfl rfl ?_
  refine Ev.aload_n (q := 87) dX4_copyFrom_86 rfl rfl ?_
  refine gR (q := 90) dX4_copyFrom_87 gfX4_30 owK owr6 rfl rfl ?_
  refine Ev.iconst (q := 91) dX4_copyFrom_90 ki_0 rfl ?_
  refine Ev.aload_n (q := 92) dX4_copyFrom_91 rfl rfl ?_
  refine gR (q := 95) dX4_copyFrom_92 gfX4_30 nwK nwr6 rfl rfl ?_
  refine Ev.iconst (q := 96) dX4_copyFrom_95 ki_0 rfl ?_
  refine Ev.bipush (q := 98) dX4_copyFrom_96 kb_8 rfl ?_
  refine copyI (q := 101) (n := 8) dX4_copyFrom_98 acX4 owK6 nwK6 (by decide) (by decide) (by decide) (by omega) rfl rfl ?_
  refine rV dX4_copyFrom_101 rfl ?_
  have s1 : ∀ i, 1 ≤ i → i ≤ 7 → ∀ k, sN n (n + i) k = true := fun i h1 h2 k => decide_eq_true (by omega)
  refine ⟨fun i h1 h2 k hk => ?_, (((((((Fr.rf _ _).cpm (s1 1 (by omega) (by omega))).cpm (s1 2 (by omega) (by omega))).cpm (s1 3 (by omega) (by omega))).cpm (s1 4 (by omega) (by omega))).cpm (s1 5 (by omega) (by omega))).cpm (s1 6 (by omega) (by omega))).cpm (s1 7 (by omega) (by omega))⟩
  rcases (show i = 1 ∨ i = 2 ∨ i = 3 ∨ i = 4 ∨ i = 5 ∨ i = 6 ∨ i = 7 by omega) with rfl | rfl | rfl | rfl | rfl | rfl | rfl
  · have hk' : k < 3 := hk
    simp (disch := omega) only [cpm_o, cpm_in, up_o]
  · have hk' : k < 3 := hk
    simp (disch := omega) only [cpm_o, cpm_in, up_o]
  · have hk' : k < 3 := hk
    simp (disch := omega) only [cpm_o, cpm_in, up_o]
  · have hk' : k < 3 := hk
    simp (disch := omega) only [cpm_o, cpm_in, up_o]
  · have hk' : k < 8 := hk
    simp (disch := omega) only [cpm_o, cpm_in, up_o]
  · have hk' : k < 8 := hk
    simp (disch := omega) only [cpm_o, cpm_in, up_o]
  · have hk' : k < 8 := hk
    simp (disch := omega) only [cpm_o, cpm_in, up_o]
def cps (m : Mem) (o n : Nat) : Nat → Mem
  | 0 => m
  | i + 1 => cpm (cps m o n i) (o + (i + 1)) 0 (n + (i + 1)) 0 (hlen (i + 1))
theorem cps_o (m : Mem) (o n : Nat) : ∀ (q a : Nat), ¬ (n < a ∧ a ≤ n + q) → cps m o n q a = m a := by
  intro q
  induction q with
  | zero => intro a _; rfl
  | succ q ih =>
    intro a h
    unfold cps
    funext j
    rw [cpm_o (by omega), ih a (by omega)]
theorem cps_in (m : Mem) (o n : Nat) (hD : n + 10 < o ∨ o + 10 < n) : ∀ (q i k : Nat), q ≤ 10 → 1 ≤ i → i ≤ q → k < hlen i → cps m o n q (n + i) k = m (o + i) k := by
  intro q
  induction q with
  | zero => intro i k _ h1 h2; omega
  | succ q ih =>
    intro i k hq h1 h2 hk
    unfold cps
    by_cases e : i = q + 1
    · subst e
      rw [cpm_in hk, cps_o m o n q _ (by omega)]
    · rw [cpm_o (by omega)]
      exact ih i k (by omega) h1 (by omega) hk
set_option maxRecDepth 4000 in
theorem p_X1_copyFrom {Γ : Gm} {d : Nat} {m : Mem} (n o : Nat) (hn : n ∈ houC) (ho : o ∈ houC) (hno : n ≠ o) : Ci Γ (d + 1) MX1_copyFrom [rv n, rv o] m (fun r m' => (m' n 0 = m o 0 ∧ m' n 1 = m o 1 ∧ m' n 2 = m o 2 ∧ m' n 3 = m o 3) ∧ (∀ i, 1 ≤ i → i ≤ 10 → ∀ k, k < hlen i → m' (n + i) k = m (o + i) k) ∧ Fr (sH n) m m') := by
  refine Ci.of moX1_copyFrom rfl rfl (fun hA hM => ?_)
  show Em Γ (d + 1) MX1_copyFrom _ 0 [rv n, rv o] [] m
  obtain ⟨hoK, ⟨hor0, hor1, hor2, hor3, hor4, hor5, hor6, hor7, hor8, hor9⟩, hoK0, hoK1, hoK2, hoK3, hoK4, hoK5, hoK6, hoK7, hoK8, hoK9, hoN⟩ := houK n hn
  obtain ⟨ooK, ⟨oor0, oor1, oor2, oor3, oor4, oor5, oor6, oor7, oor8, oor9⟩, ooK0, ooK1, ooK2, ooK3, ooK4, ooK5, ooK6, ooK7, ooK8, ooK9, ooN⟩ := houK o ho
  have hD := houD n hn o ho hno
  refine Ev.aload_n (q := 1) dX1_copyFrom_0 rfl rfl ?_
  refine Ev.aload_n (q := 2) dX1_copyFrom_1 rfl rfl ?_
  refine gI (q := 5) dX1_copyFrom_2 gfX1_9 ooK rfl rfl ?_
  refine pI (q := 8) dX1_copyFrom_5 gfX1_9 hoK rfl rfl ?_
  refine Ev.aload_n (q := 9) dX1_copyFrom_8 rfl rfl ?_
  refine Ev.aload_n (q := 10) dX1_copyFrom_9 rfl rfl ?_
  refine gI (q := 13) dX1_copyFrom_10 gfX1_15 ooK rfl rfl ?_
  rw [up_o _ _ (by omega)]
  refine pI (q := 16) dX1_copyFrom_13 gfX1_15 hoK rfl rfl ?_
  refine Ev.aload_n (q := 17) dX1_copyFrom_16 rfl rfl ?_
  refine Ev.aload_n (q := 18) dX1_copyFrom_17 rfl rfl ?_
  refine gI (q := 21) dX1_copyFrom_18 gfX1_18 ooK rfl rfl ?_
  rw [up_o _ _ (by omega), up_o _ _ (by omega)]
  refine pI (q := 24) dX1_copyFrom_21 gfX1_18 hoK rfl rfl ?_
  refine Ev.aload_n (q := 25) dX1_copyFrom_24 rfl rfl ?_
  refine Ev.aload_n (q := 26) dX1_copyFrom_25 rfl rfl ?_
  refine gI (q := 29) dX1_copyFrom_26 gfX1_21 ooK rfl rfl ?_
  rw [up_o _ _ (by omega), up_o _ _ (by omega), up_o _ _ (by omega)]
  refine pI (q := 32) dX1_copyFrom_29 gfX1_21 hoK rfl rfl ?_
  refine Ev.aload_n (q := 33) dX1_copyFrom_32 rfl rfl ?_
  refine gR (q := 36) dX1_copyFrom_33 gfX1_24 ooK oor0 rfl rfl ?_
  refine Ev.iconst (q := 37) dX1_copyFrom_36 ki_0 rfl ?_
  refine Ev.aload_n (q := 38) dX1_copyFrom_37 rfl rfl ?_
  refine gR (q := 41) dX1_copyFrom_38 gfX1_24 hoK hor0 rfl rfl ?_
  refine Ev.iconst (q := 42) dX1_copyFrom_41 ki_0 rfl ?_
  refine Ev.bipush (q := 44) dX1_copyFrom_42 kb_12 rfl ?_
  refine copyI (q := 47) (n := 12) dX1_copyFrom_44 acX1 ooK0 hoK0 (by decide) (by decide) (by decide) (by omega) rfl rfl ?_
  refine Ev.aload_n (q := 48) dX1_copyFrom_47 rfl rfl ?_
  refine gR (q := 51) dX1_copyFrom_48 gfX1_28 ooK oor1 rfl rfl ?_
  refine Ev.iconst (q := 52) dX1_copyFrom_51 ki_0 rfl ?_
  refine Ev.aload_n (q := 53) dX1_copyFrom_52 rfl rfl ?_
  refine gR (q := 56) dX1_copyFrom_53 gfX1_28 hoK hor1 rfl rfl ?_
  refine Ev.iconst (q := 57) dX1_copyFrom_56 ki_0 rfl ?_
  refine Ev.iconst (q := 58) dX1_copyFrom_57 ki_3 rfl ?_
  refine copyI (q := 61) (n := 3) dX1_copyFrom_58 acX1 ooK1 hoK1 (by decide) (by decide) (by decide) (by omega) rfl rfl ?_
  refine Ev.aload_n (q := 62) dX1_copyFrom_61 rfl rfl ?_
  refine gR (q := 65) dX1_copyFrom_62 gfX1_31 ooK oor2 rfl rfl ?_
  refine Ev.iconst (q := 66) dX1_copyFrom_65 ki_0 rfl ?_
  refine Ev.aload_n (q := 67) dX1_copyFrom_66 rfl rfl ?_
  refine gR (q := 70) dX1_copyFrom_67 gfX1_31 hoK hor2 rfl rfl ?_
  refine Ev.iconst (q := 71) dX1_copyFrom_70 ki_0 rfl ?_
  refine Ev.bipush (q := 73) dX1_copyFrom_71 kb_8 rfl ?_
  refine copyI (q := 76) (n := 8) dX1_copyFrom_73 acX1 ooK2 hoK2 (by decide) (by decide) (by decide) (by omega) rfl rfl ?_
  refine Ev.aload_n (q := 77) dX1_copyFrom_76 rfl rfl ?_
  refine gR (q := 80) dX1_copyFrom_77 gfX1_34 ooK oor3 rfl rfl ?_
  refine Ev.iconst (q := 81) dX1_copyFrom_80 ki_0 rfl ?_
  refine Ev.aload_n (q := 82) dX1_copyFrom_81 rfl rfl ?_
  refine gR (q := 85) dX1_copyFrom_82 gfX1_34 hoK hor3 rfl rfl ?_
  refine Ev.iconst (q := 86) dX1_copyFrom_85 ki_0 rfl ?_
  refine Ev.bipush (q := 88) dX1_copyFrom_86 kb_8 rfl ?_
  refine copyI (q := 91) (n := 8) dX1_copyFrom_88 acX1 ooK3 hoK3 (by decide) (by decide) (by decide) (by omega) rfl rfl ?_
  refine Ev.aload_n (q := 92) dX1_copyFrom_91 rfl rfl ?_
  refine gR (q := 95) dX1_copyFrom_92 gfX1_37 ooK oor4 rfl rfl ?_
  refine Ev.iconst (q := 96) dX1_copyFrom_95 ki_0 rfl ?_
  refine Ev.aload_n (q := 97) dX1_copyFrom_96 rfl rfl ?_
  refine gR (q := 100) dX1_copyFrom_97 gfX1_37 hoK hor4 rfl rfl ?_
  refine Ev.iconst (q := 101) dX1_copyFrom_100 ki_0 rfl ?_
  refine Ev.bipush (q := 103) dX1_copyFrom_101 kb_8 rfl ?_
  refine copyI (q := 106) (n := 8) dX1_copyFrom_103 acX1 ooK4 hoK4 (by decide) (by decide) (by decide) (by omega) rfl rfl ?_
  refine Ev.aload_n (q := 107) dX1_copyFrom_106 rfl rfl ?_
  refine gR (q := 110) dX1_copyFrom_107 gfX1_40 ooK oor5 rfl rfl ?_
  refine Ev.iconst (q := 111) dX1_copyFrom_110 ki_0 rfl ?_
  refine Ev.aload_n (q := 112) dX1_copyFrom_111 rfl rfl ?_
  refine gR (q := 115) dX1_copyFrom_112 gfX1_40 hoK hor5 rfl rfl ?_
  refine Ev.iconst (q := 116) dX1_copyFrom_115 ki_0 rfl ?_
  refine Ev.bipush (q := 118) dX1_copyFrom_116 kb_8 rfl ?_
  refine copyI (q := 121) (n := 8) dX1_copyFrom_118 acX1 ooK5 hoK5 (by decide) (by decide) (by decide) (by omega) rfl rfl ?_
  refine Ev.aload_n (q := 122) dX1_copyFrom_121 rfl rfl ?_
  refine gR (q := 125) dX1_copyFrom_122 gfX1_43 ooK oor6 rfl rfl ?_
  refine Ev.iconst (q := 126) dX1_copyFrom_125 ki_0 rfl ?_
  refine Ev.aload_n (q := 127) dX1_copyFrom_126 rfl rfl ?_
  refine gR (q := 130) dX1_copyFrom_127 gfX1_43 hoK hor6 rfl rfl ?_
  refine Ev.iconst (q := 131) dX1_copyFrom_130 ki_0 rfl ?_
  refine Ev.aload_n (q := 132) dX1_copyFrom_131 rfl rfl ?_
  refine gR (q := 135) dX1_copyFrom_132 gfX1_43 hoK hor6 rfl rfl ?_
  refine aLen (q := 136) dX1_copyFrom_135 hoK6 (by decide) (by decide) rfl ?_
  refine copyI (q := 139) (n := 96) dX1_copyFrom_136 acX1 ooK6 hoK6 (by decide) (by decide) (by decide) (by omega) rfl rfl ?_
  refine Ev.aload_n (q := 140) dX1_copyFrom_139 rfl rfl ?_
  refine gR (q := 143) dX1_copyFrom_140 gfX1_46 ooK oor7 rfl rfl ?_
  refine Ev.iconst (q := 144) dX1_copyFrom_143 ki_0 rfl ?_
  refine Ev.aload_n (q := 145) dX1_copyFrom_144 rfl rfl ?_
  refine gR (q := 148) dX1_copyFrom_145 gfX1_46 hoK hor7 rfl rfl ?_
  refine Ev.iconst (q := 149) dX1_copyFrom_148 ki_0 rfl ?_
  refine Ev.aload_n (q := 150) dX1_copyFrom_149 rfl rfl ?_
  refine gR (q := 153) dX1_copyFrom_150 gfX1_46 hoK hor7 rfl rfl ?_
  refine aLen (q := 154) dX1_copyFrom_153 hoK7 (by decide) (by decide) rfl ?_
  refine copyI (q := 157) (n := 96) dX1_copyFrom_154 acX1 ooK7 hoK7 (by decide) (by decide) (by decide) (by omega) rfl rfl ?_
  refine Ev.aload_n (q := 158) dX1_copyFrom_157 rfl rfl ?_
  refine gR (q := 161) dX1_copyFrom_158 gfX1_49 ooK oor8 rfl rfl ?_
  refine Ev.iconst (q := 162) dX1_copyFrom_161 ki_0 rfl ?_
  refine Ev.aload_n (q := 163) dX1_copyFrom_162 rfl rfl ?_
  refine gR (q := 166) dX1_copyFrom_163 gfX1_49 hoK hor8 rfl rfl ?_
  refine Ev.iconst (q := 167) dX1_copyFrom_166 ki_0 rfl ?_
  refine Ev.aload_n (q := 168) dX1_copyFrom_167 rfl rfl ?_
  refine gR (q := 171) dX1_copyFrom_168 gfX1_49 hoK hor8 rfl rfl ?_
  refine aLen (q := 172) dX1_copyFrom_171 hoK8 (by decide) (by decide) rfl ?_
  refine copyI (q := 175) (n := 96) dX1_copyFrom_172 acX1 ooK8 hoK8 (by decide) (by decide) (by decide) (by omega) rfl rfl ?_
  refine Ev.aload_n (q := 176) dX1_copyFrom_175 rfl rfl ?_
  refine gR (q := 179) dX1_copyFrom_176 gfX1_52 ooK oor9 rfl rfl ?_
  refine Ev.iconst (q := 180) dX1_copyFrom_179 ki_0 rfl ?_
  refine Ev.aload_n (q := 181) dX1_copyFrom_180 rfl rfl ?_
  refine gR (q := 184) dX1_copyFrom_181 gfX1_52 hoK hor9 rfl rfl ?_
  refine Ev.iconst (q := 185) dX1_copyFrom_184 ki_0 rfl ?_
  refine Ev.aload_n (q := 186) dX1_copyFrom_185 rfl rfl ?_
  refine gR (q := 189) dX1_copyFrom_186 gfX1_52 hoK hor9 rfl rfl ?_
  refine aLen (q := 190) dX1_copyFrom_189 hoK9 (by decide) (by decide) rfl ?_
  refine copyI (q := 193) (n := 432) dX1_copyFrom_190 acX1 ooK9 hoK9 (by decide) (by decide) (by decide) (by omega) rfl rfl ?_
  refine rV dX1_copyFrom_193 rfl ?_
  show _ ∧ _ ∧ _
  obtain ⟨M4, hM4⟩ : ∃ M4, M4 = up (up (up (up m n 0 (m o 0)) n 1 (m o 1)) n 2 (m o 2)) n 3 (m o 3) := ⟨_, rfl⟩
  rw [← hM4]
  have hF4 : Fr (sA n) m M4 := by
    have s1 : ∀ k, sA n n k = true := fun k => by simp [sA]
    rw [hM4]
    exact ((((Fr.rf _ _).up (s1 _)).up (s1 _)).up (s1 _)).up (s1 _)
  show ((cps M4 o n 10) n 0 = _ ∧ (cps M4 o n 10) n 1 = _ ∧ (cps M4 o n 10) n 2 = _ ∧ (cps M4 o n 10) n 3 = _) ∧ (∀ i, 1 ≤ i → i ≤ 10 → ∀ k, k < hlen i → (cps M4 o n 10) (n + i) k = _) ∧ Fr (sH n) m (cps M4 o n 10)
  refine ⟨?_, fun i h1 h2 k hk => ?_, fun a k q => ?_⟩
  · rw [cps_o M4 o n 10 n (by omega), hM4]
    simp (disch := decide) only [up_k, up_eq, and_self]
  · rw [cps_in M4 o n hD 10 i k (by omega) h1 h2 hk, hF4.rowA (by omega)]
  · have := sH_n q
    rw [cps_o M4 o n 10 a (by omega), hF4.rowA (by omega)]
theorem NowR.copy {g : Row} {m m' : Mem} {n o : Nat} (h2 : g 2 ≤ 3) (h3 : g 3 ≤ 8) (h : NowR g m o) (e : ∀ i, 1 ≤ i → i ≤ 7 → ∀ k, k < nlen i → m' (n + i) k = m (o + i) k) : NowR g m' n := by
  refine ⟨fun l hl => ?_, fun p hp => ?_⟩
  · rw [e 1 (by omega) (by omega) l (show l < 3 by omega), e 2 (by omega) (by omega) l (show l < 3 by omega), e 3 (by omega) (by omega) l (show l < 3 by omega), e 4 (by omega) (by omega) l (show l < 3 by omega)]
    exact h.1 l hl
  · rw [e 5 (by omega) (by omega) p (show p < 8 by omega), e 6 (by omega) (by omega) p (show p < 8 by omega), e 7 (by omega) (by omega) p (show p < 8 by omega)]
    exact h.2 p hp
theorem HouR.copy {g : Row} {m m' : Mem} {n o : Nat} (h1 : g 1 ≤ 12) (h2 : g 2 ≤ 3) (h3 : g 3 ≤ 8) (h : HouR g m o) (e0 : m' n 0 = m o 0 ∧ m' n 1 = m o 1 ∧ m' n 2 = m o 2 ∧ m' n 3 = m o 3) (e : ∀ i, 1 ≤ i → i ≤ 10 → ∀ k, k < hlen i → m' (n + i) k = m (o + i) k) : HouR g m' n := by
  refine ⟨by rw [e0.1, e0.2.1, e0.2.2.1, e0.2.2.2]; exact h.1, fun f hf => ?_, fun l hl => ?_, fun p hp => ?_⟩
  · rw [e 1 (by omega) (by omega) f hf]
    exact h.2.1 f hf
  · rw [e 2 (by omega) (by omega) l (show l < 3 by omega)]
    refine ⟨(h.2.2.1 l hl).1, fun f hf k hk1 hk2 => ?_⟩
    rw [e 10 (by omega) (by omega) _ (show (l * 12 + f) * 12 + k < 432 by omega)]
    exact (h.2.2.1 l hl).2 f hf k hk1 hk2
  · rw [e 3 (by omega) (by omega) p (show p < 8 by omega), e 4 (by omega) (by omega) p (show p < 8 by omega), e 5 (by omega) (by omega) p (show p < 8 by omega), e 6 (by omega) (by omega) p (show p < 8 by omega)]
    refine ⟨(h.2.2.2 p hp).1, fun f hf => ?_⟩
    rw [e 7 (by omega) (by omega) _ (show p * 12 + f < 96 by omega), e 8 (by omega) (by omega) _ (show p * 12 + f < 96 by omega), e 9 (by omega) (by omega) _ (show p * 12 + f < 96 by omega)]
    exact (h.2.2.2 p hp).2 f hf
theorem lawOf_Kp {g g' : Row} (h1 : ∀ j, j < 60 → g' j = g j) (h2 : ∀ j, 458 ≤ j → g' j = g j) {law : Nat} (hl : law < 2) (w : Nat → Int) : lawOf g' law w = lawOf g law w := by
  unfold lawOf
  rw [h1 (6 + law) (by omega), h1 (8 + law) (by omega)]
  congr 1
  funext k
  exact h2 _ (by omega)
theorem stopV_Kp {g g' : Row} (h1 : ∀ j, j < 60 → g' j = g j) (h2 : ∀ j, 458 ≤ j → g' j = g j) {l f n : Nat} (hl : l < 3) : stopV g' l f n = stopV g l f n := by
  unfold stopV
  rw [h1 5 (by omega), h1 (25 + l) (by omega), lawOf_Kp h1 h2 (by decide)]
theorem stepV_Kp {g g' : Row} (h1 : ∀ j, j < 60 → g' j = g j) (h2 : ∀ j, 458 ≤ j → g' j = g j) {p f : Nat} {u : Int} (hp : p < 8) : stepV g' p f u = stepV g p f u := by
  unfold stepV
  rw [h1 4 (by omega), h1 (36 + p) (by omega), h1 (44 + p) (by omega), lawOf_Kp h1 h2 (by decide)]
theorem footUp_Kp {g g' : Row} (h1 : ∀ j, j < 60 → g' j = g j) (h2 : ∀ j, 458 ≤ j → g' j = g j) {p f : Nat} (hp : p < 8) : ∀ n, footUp g' p f n = footUp g p f n := by
  intro n
  induction n with
  | zero => rfl
  | succ n ih => unfold footUp; rw [ih, stepV_Kp h1 h2 hp]
theorem footDn_Kp {g g' : Row} (h1 : ∀ j, j < 60 → g' j = g j) (h2 : ∀ j, 458 ≤ j → g' j = g j) {p f : Nat} (hp : p < 8) : ∀ n, footDn g' p f n = footDn g p f n := by
  intro n
  induction n with
  | zero => rfl
  | succ n ih => unfold footDn; rw [ih, stepV_Kp h1 h2 hp]
theorem footV_Kp {g g' : Row} (h1 : ∀ j, j < 60 → g' j = g j) (h2 : ∀ j, 458 ≤ j → g' j = g j) {p f t : Nat} (hp : p < 8) : footV g' p f t = footV g p f t := by
  unfold footV
  rw [footUp_Kp h1 h2 hp, footDn_Kp h1 h2 hp]
theorem HouR.Kp {g g' : Row} {m : Mem} {n : Nat} (h2 : g 2 ≤ 3) (h3 : g 3 ≤ 8) (k1 : ∀ j, j < 60 → g' j = g j) (k2 : ∀ j, 458 ≤ j → g' j = g j) (h : HouR g m n) : HouR g' m n := by
  unfold HouR
  rw [k1 0 (by omega), k1 1 (by omega), k1 2 (by omega), k1 3 (by omega)]
  refine ⟨h.1, fun f hf => by rw [k1 (10 + f) (by omega)]; exact h.2.1 f hf, fun l hl => ?_, fun p hp => ?_⟩
  · rw [k1 (22 + l) (by omega)]
    refine ⟨(h.2.2.1 l hl).1, fun f hf k hk1 hk2 => ?_⟩
    rw [stopV_Kp k1 k2 (by omega)]
    exact (h.2.2.1 l hl).2 f hf k hk1 hk2
  · rw [k1 (28 + p) (by omega), k1 (36 + p) (by omega), k1 (44 + p) (by omega), k1 (52 + p) (by omega)]
    refine ⟨(h.2.2.2 p hp).1, fun f hf => ?_⟩
    rw [stepV_Kp k1 k2 (by omega), stepV_Kp k1 k2 (by omega), footV_Kp k1 k2 (by omega)]
    exact (h.2.2.2 p hp).2 f hf
theorem NowR.cg {g g' : Row} {m : Mem} {n : Nat} (e2 : g' 2 = g 2) (e3 : g' 3 = g 3) (e : ∀ j, 60 ≤ j → j < 96 → g' j = g j) (h2 : g 2 ≤ 3) (h3 : g 3 ≤ 8) (h : NowR g m n) : NowR g' m n := by
  refine ⟨fun l hl => ?_, fun p hp => ?_⟩
  · rw [e2] at hl
    rw [e (60 + l) (by omega) (by omega), e (63 + l) (by omega) (by omega), e (66 + l) (by omega) (by omega), e (69 + l) (by omega) (by omega)]
    exact h.1 l hl
  · rw [e3] at hp
    rw [e (72 + p) (by omega) (by omega), e (80 + p) (by omega) (by omega), e (88 + p) (by omega) (by omega)]
    exact h.2 p hp
theorem NowR_1 {g : Row} {m : Mem} {n : Nat} (h : NowR g m n) (h2 : g 2 ≤ 3) (h3 : g 3 ≤ 8) {k : Nat} (hk : k < 3) (x : Int) : NowR (upg g (60 + k) x) (up m (n + 1) k x) n := by
  refine ⟨fun l hl => ?_, fun p hp => ?_⟩
  · rw [upg_ne _ _ (by omega)] at hl
    obtain ⟨q1, q2, q3, q4⟩ := h.1 l hl
    refine ⟨?_, ?_, ?_, ?_⟩
    · by_cases e : l = k
      · subst e; rw [up_eq, upg_eq]
      · rw [up_k _ _ e, upg_ne _ _ (by omega)]; exact q1
    · rw [up_o _ _ (by omega), upg_ne _ _ (by omega)]; exact q2
    · rw [up_o _ _ (by omega), upg_ne _ _ (by omega)]; exact q3
    · rw [up_o _ _ (by omega), upg_ne _ _ (by omega)]; exact q4
  · rw [upg_ne _ _ (by omega)] at hp
    obtain ⟨q5, q6, q7⟩ := h.2 p hp
    refine ⟨?_, ?_, ?_⟩
    · rw [up_o _ _ (by omega), upg_ne _ _ (by omega)]; exact q5
    · rw [up_o _ _ (by omega), upg_ne _ _ (by omega)]; exact q6
    · rw [up_o _ _ (by omega), upg_ne _ _ (by omega)]; exact q7
theorem NowR_2 {g : Row} {m : Mem} {n : Nat} (h : NowR g m n) (h2 : g 2 ≤ 3) (h3 : g 3 ≤ 8) {k : Nat} (hk : k < 3) (x : Int) : NowR (upg g (63 + k) x) (up m (n + 2) k x) n := by
  refine ⟨fun l hl => ?_, fun p hp => ?_⟩
  · rw [upg_ne _ _ (by omega)] at hl
    obtain ⟨q1, q2, q3, q4⟩ := h.1 l hl
    refine ⟨?_, ?_, ?_, ?_⟩
    · rw [up_o _ _ (by omega), upg_ne _ _ (by omega)]; exact q1
    · by_cases e : l = k
      · subst e; rw [up_eq, upg_eq]
      · rw [up_k _ _ e, upg_ne _ _ (by omega)]; exact q2
    · rw [up_o _ _ (by omega), upg_ne _ _ (by omega)]; exact q3
    · rw [up_o _ _ (by omega), upg_ne _ _ (by omega)]; exact q4
  · rw [upg_ne _ _ (by omega)] at hp
    obtain ⟨q5, q6, q7⟩ := h.2 p hp
    refine ⟨?_, ?_, ?_⟩
    · rw [up_o _ _ (by omega), upg_ne _ _ (by omega)]; exact q5
    · rw [up_o _ _ (by omega), upg_ne _ _ (by omega)]; exact q6
    · rw [up_o _ _ (by omega), upg_ne _ _ (by omega)]; exact q7
theorem NowR_3 {g : Row} {m : Mem} {n : Nat} (h : NowR g m n) (h2 : g 2 ≤ 3) (h3 : g 3 ≤ 8) {k : Nat} (hk : k < 3) (x : Int) : NowR (upg g (66 + k) x) (up m (n + 3) k x) n := by
  refine ⟨fun l hl => ?_, fun p hp => ?_⟩
  · rw [upg_ne _ _ (by omega)] at hl
    obtain ⟨q1, q2, q3, q4⟩ := h.1 l hl
    refine ⟨?_, ?_, ?_, ?_⟩
    · rw [up_o _ _ (by omega), upg_ne _ _ (by omega)]; exact q1
    · rw [up_o _ _ (by omega), upg_ne _ _ (by omega)]; exact q2
    · by_cases e : l = k
      · subst e; rw [up_eq, upg_eq]
      · rw [up_k _ _ e, upg_ne _ _ (by omega)]; exact q3
    · rw [up_o _ _ (by omega), upg_ne _ _ (by omega)]; exact q4
  · rw [upg_ne _ _ (by omega)] at hp
    obtain ⟨q5, q6, q7⟩ := h.2 p hp
    refine ⟨?_, ?_, ?_⟩
    · rw [up_o _ _ (by omega), upg_ne _ _ (by omega)]; exact q5
    · rw [up_o _ _ (by omega), upg_ne _ _ (by omega)]; exact q6
    · rw [up_o _ _ (by omega), upg_ne _ _ (by omega)]; exact q7
theorem NowR_4 {g : Row} {m : Mem} {n : Nat} (h : NowR g m n) (h2 : g 2 ≤ 3) (h3 : g 3 ≤ 8) {k : Nat} (hk : k < 3) (x : Int) : NowR (upg g (69 + k) x) (up m (n + 4) k x) n := by
  refine ⟨fun l hl => ?_, fun p hp => ?_⟩
  · rw [upg_ne _ _ (by omega)] at hl
    obtain ⟨q1, q2, q3, q4⟩ := h.1 l hl
    refine ⟨?_, ?_, ?_, ?_⟩
    · rw [up_o _ _ (by omega), upg_ne _ _ (by omega)]; exact q1
    · rw [up_o _ _ (by omega), upg_ne _ _ (by omega)]; exact q2
    · rw [up_o _ _ (by omega), upg_ne _ _ (by omega)]; exact q3
    · by_cases e : l = k
      · subst e; rw [up_eq, upg_eq]
      · rw [up_k _ _ e, upg_ne _ _ (by omega)]; exact q4
  · rw [upg_ne _ _ (by omega)] at hp
    obtain ⟨q5, q6, q7⟩ := h.2 p hp
    refine ⟨?_, ?_, ?_⟩
    · rw [up_o _ _ (by omega), upg_ne _ _ (by omega)]; exact q5
    · rw [up_o _ _ (by omega), upg_ne _ _ (by omega)]; exact q6
    · rw [up_o _ _ (by omega), upg_ne _ _ (by omega)]; exact q7
theorem NowR_5 {g : Row} {m : Mem} {n : Nat} (h : NowR g m n) (h2 : g 2 ≤ 3) (h3 : g 3 ≤ 8) {k : Nat} (hk : k < 8) (x : Int) : NowR (upg g (72 + k) x) (up m (n + 5) k x) n := by
  refine ⟨fun l hl => ?_, fun p hp => ?_⟩
  · rw [upg_ne _ _ (by omega)] at hl
    obtain ⟨q1, q2, q3, q4⟩ := h.1 l hl
    refine ⟨?_, ?_, ?_, ?_⟩
    · rw [up_o _ _ (by omega), upg_ne _ _ (by omega)]; exact q1
    · rw [up_o _ _ (by omega), upg_ne _ _ (by omega)]; exact q2
    · rw [up_o _ _ (by omega), upg_ne _ _ (by omega)]; exact q3
    · rw [up_o _ _ (by omega), upg_ne _ _ (by omega)]; exact q4
  · rw [upg_ne _ _ (by omega)] at hp
    obtain ⟨q5, q6, q7⟩ := h.2 p hp
    refine ⟨?_, ?_, ?_⟩
    · by_cases e : p = k
      · subst e; rw [up_eq, upg_eq]
      · rw [up_k _ _ e, upg_ne _ _ (by omega)]; exact q5
    · rw [up_o _ _ (by omega), upg_ne _ _ (by omega)]; exact q6
    · rw [up_o _ _ (by omega), upg_ne _ _ (by omega)]; exact q7
theorem NowR_6 {g : Row} {m : Mem} {n : Nat} (h : NowR g m n) (h2 : g 2 ≤ 3) (h3 : g 3 ≤ 8) {k : Nat} (hk : k < 8) (x : Int) : NowR (upg g (80 + k) x) (up m (n + 6) k x) n := by
  refine ⟨fun l hl => ?_, fun p hp => ?_⟩
  · rw [upg_ne _ _ (by omega)] at hl
    obtain ⟨q1, q2, q3, q4⟩ := h.1 l hl
    refine ⟨?_, ?_, ?_, ?_⟩
    · rw [up_o _ _ (by omega), upg_ne _ _ (by omega)]; exact q1
    · rw [up_o _ _ (by omega), upg_ne _ _ (by omega)]; exact q2
    · rw [up_o _ _ (by omega), upg_ne _ _ (by omega)]; exact q3
    · rw [up_o _ _ (by omega), upg_ne _ _ (by omega)]; exact q4
  · rw [upg_ne _ _ (by omega)] at hp
    obtain ⟨q5, q6, q7⟩ := h.2 p hp
    refine ⟨?_, ?_, ?_⟩
    · rw [up_o _ _ (by omega), upg_ne _ _ (by omega)]; exact q5
    · by_cases e : p = k
      · subst e; rw [up_eq, upg_eq]
      · rw [up_k _ _ e, upg_ne _ _ (by omega)]; exact q6
    · rw [up_o _ _ (by omega), upg_ne _ _ (by omega)]; exact q7
theorem NowR_7 {g : Row} {m : Mem} {n : Nat} (h : NowR g m n) (h2 : g 2 ≤ 3) (h3 : g 3 ≤ 8) {k : Nat} (hk : k < 8) (x : Int) : NowR (upg g (88 + k) x) (up m (n + 7) k x) n := by
  refine ⟨fun l hl => ?_, fun p hp => ?_⟩
  · rw [upg_ne _ _ (by omega)] at hl
    obtain ⟨q1, q2, q3, q4⟩ := h.1 l hl
    refine ⟨?_, ?_, ?_, ?_⟩
    · rw [up_o _ _ (by omega), upg_ne _ _ (by omega)]; exact q1
    · rw [up_o _ _ (by omega), upg_ne _ _ (by omega)]; exact q2
    · rw [up_o _ _ (by omega), upg_ne _ _ (by omega)]; exact q3
    · rw [up_o _ _ (by omega), upg_ne _ _ (by omega)]; exact q4
  · rw [upg_ne _ _ (by omega)] at hp
    obtain ⟨q5, q6, q7⟩ := h.2 p hp
    refine ⟨?_, ?_, ?_⟩
    · rw [up_o _ _ (by omega), upg_ne _ _ (by omega)]; exact q5
    · rw [up_o _ _ (by omega), upg_ne _ _ (by omega)]; exact q6
    · by_cases e : p = k
      · subst e; rw [up_eq, upg_eq]
      · rw [up_k _ _ e, upg_ne _ _ (by omega)]; exact q7
