/-! ===== the reference: sums ===== -/
set_option maxRecDepth 4000 in
theorem l_sumBy {Γ : Gm} {d : Nat} {m0 : Mem} (P : Nat) (hP : m0 212 3 = P) (l lit : Nat) (hI : HI (m0 212)) (hl : (l : Int) < m0 212 2) (hlit : litOk (m0 212) l lit) : ∀ (n p : Nat), p + n = P → ∀ (m : Mem), Fr sBe m0 m → m 212 = m0 212 → Em Γ (d + 5) MX12_sumBy (fun r m' => r = sumV (m0 212) l lit ∧ Fr sBe m0 m') 5 [rv 211, iv l, iv lit, jv (sumN (m0 212) l lit p), uv, iv p] [] m := by
  intro n
  induction n with
  | zero =>
    intro p hp m hF0 g12
    obtain rfl : P = p := by omega
    have hP8 := hI.2.2.1
    have hL3 := hI.2.1
    refine Ev.iload (q := 7) dX12_sumBy_5 rfl rfl ?_
    refine Ev.aload_n (q := 8) dX12_sumBy_7 rfl rfl ?_
    refine gR (q := 11) dX12_sumBy_8 gfX12_13 k211 r211_1 rfl rfl ?_
    refine Ev.iconst (q := 12) dX12_sumBy_11 ki_3 rfl ?_
    refine aI (q := 13) (k := 3) dX12_sumBy_12 k212 (by rfl) (by decide) rfl ?_
    refine Ev.icmp_ge (tgt := 59) (q := 16) dX12_sumBy_13 (by decide) rfl (fun h1 => ?_) (fun h1 => ?_)
    · skip
      refine Ev.lload_n (q := 60) dX12_sumBy_59 rfl rfl ?_
      refine rJ dX12_sumBy_60 rfl ?_
      exact ⟨by unfold sumV; rw [hP, Int.toNat_natCast], hF0⟩
    · skip
      rw [g12] at h1; omega
  | succ n ih =>
    intro p hp m hF0 g12
    have hP8 := hI.2.2.1
    have hL3 := hI.2.1
    refine Ev.iload (q := 7) dX12_sumBy_5 rfl rfl ?_
    refine Ev.aload_n (q := 8) dX12_sumBy_7 rfl rfl ?_
    refine gR (q := 11) dX12_sumBy_8 gfX12_13 k211 r211_1 rfl rfl ?_
    refine Ev.iconst (q := 12) dX12_sumBy_11 ki_3 rfl ?_
    refine aI (q := 13) (k := 3) dX12_sumBy_12 k212 (by rfl) (by decide) rfl ?_
    refine Ev.icmp_ge (tgt := 59) (q := 16) dX12_sumBy_13 (by decide) rfl (fun h1 => ?_) (fun h1 => ?_)
    · skip
      rw [g12] at h1; omega
    · skip
      refine Ev.aload_n (q := 17) dX12_sumBy_16 rfl rfl ?_
      refine gR (q := 20) dX12_sumBy_17 gfX12_13 k211 r211_1 rfl rfl ?_
      refine Ev.bipush (q := 22) dX12_sumBy_20 kb_88 rfl ?_
      refine Ev.iload (q := 24) dX12_sumBy_22 rfl rfl ?_
      refine Ev.iadd (q := 25) dX12_sumBy_24 rfl ?_
      refine aI (q := 26) (k := 88 + p) dX12_sumBy_25 k212 (by first | rfl | omega | (simp (disch := omega) only [w32_of]; omega)) (by omega) rfl ?_
      refine Ev.iload_n (q := 27) dX12_sumBy_26 rfl rfl ?_
      rw [g12]
      refine Ev.icmp_ne (tgt := 53) (q := 30) dX12_sumBy_27 (by decide) rfl (fun h2 => ?_) (fun h2 => ?_)
      · skip
        have hin : ¬ m0 212 (88 + p) = l := by assumption
        refine iinc_5 (q := 56) dX12_sumBy_53 rfl rfl rfl ?_
        refine Ev.goto (q := 5) dX12_sumBy_56 (by decide) ?_
        rw [w32_of (by omega) (by omega)]
        have hk := ih (p + 1) (by omega) _ hF0 g12
        rw [show sumN (m0 212) l lit (p + 1) = sumN (m0 212) l lit p by conv => lhs; unfold sumN; rw [if_neg hin]] at hk
        exact hk
      · skip
        have hin : m0 212 (88 + p) = l := by assumption
        refine Ev.lload_n (q := 31) dX12_sumBy_30 rfl rfl ?_
        refine Ev.aload_n (q := 32) dX12_sumBy_31 rfl rfl ?_
        refine Ev.iload (q := 34) dX12_sumBy_32 rfl rfl ?_
        refine Ev.iload_n (q := 35) dX12_sumBy_34 rfl rfl ?_
        refine cV2i (q := 38) (d' := d + 4) dX12_sumBy_35 mlX12_358 moX12_bestBy mvX12_bestBy k211 rfl rfl rfl (Nat.le_refl _) rfl rfl rfl (p_X12_bestBy p lit (by rw [g12]; exact hI) (by rw [g12]; omega) (by rw [g12]; exact hlit.1) (fun _ => by rw [g12, hin]; simp only [Int.toNat_natCast]; exact hlit.2)) (fun r3 m3 e3 => ?_)
        obtain ⟨rfl, hout, hfr⟩ := e3
        rw [g12]
        have hF2 := hF0.tr hfr
        generalize m3 = M2 at *
        have g2 : M2 212 = m0 212 := by rw [hfr.row 212 (fun _ => rfl)]; exact g12
        refine Ev.i2l (q := 39) dX12_sumBy_38 rfl ?_
        refine Ev.aload_n (q := 40) dX12_sumBy_39 rfl rfl ?_
        refine gR (q := 43) dX12_sumBy_40 gfX12_13 k211 r211_1 rfl rfl ?_
        refine Ev.bipush (q := 45) dX12_sumBy_43 kb_52 rfl ?_
        refine Ev.iload (q := 47) dX12_sumBy_45 rfl rfl ?_
        refine Ev.iadd (q := 48) dX12_sumBy_47 rfl ?_
        refine aI (q := 49) (k := 52 + p) dX12_sumBy_48 k212 (by first | rfl | omega | (simp (disch := omega) only [w32_of]; omega)) (by omega) rfl ?_
        rw [g2]
        refine Ev.i2l (q := 50) dX12_sumBy_49 rfl ?_
        refine Ev.lmul (q := 51) dX12_sumBy_50 rfl ?_
        refine Ev.ladd (q := 52) dX12_sumBy_51 rfl ?_
        refine lstore_n_3 (q := 53) dX12_sumBy_52 rfl rfl rfl ?_
        refine iinc_5 (q := 56) dX12_sumBy_53 rfl rfl rfl ?_
        refine Ev.goto (q := 5) dX12_sumBy_56 (by decide) ?_
        rw [w32_of (by omega) (by omega)]
        have hk := ih (p + 1) (by omega) _ hF2 g2
        rw [show sumN (m0 212) l lit (p + 1) = w64 (sumN (m0 212) l lit p + w64 ((bestV (m0 212) p lit).1 * m0 212 (52 + p))) by conv => lhs; unfold sumN; rw [if_pos hin]] at hk
        exact hk
set_option maxRecDepth 4000 in
theorem p_X12_sumBy {Γ : Gm} {d : Nat} {m : Mem}  (l lit : Nat) (hI : HI (m 212)) (hl : (l : Int) < m 212 2) (hlit : litOk (m 212) l lit) : Ci Γ (d + 5) MX12_sumBy [rv 211, iv l, iv lit] m (fun r m' => r = sumV (m 212) l lit ∧ Fr sBe m m') := by
  refine Ci.of moX12_sumBy rfl rfl (fun hA hM => ?_)
  show Em Γ (d + 5) MX12_sumBy _ 0 [rv 211, iv l, iv lit, uv, uv, uv] [] m
  have hP8 := hI.2.2.1
  obtain ⟨P, hP⟩ : ∃ P : Nat, m 212 3 = P := ⟨(m 212 3).toNat, by omega⟩
  refine Ev.lconst (q := 1) dX12_sumBy_0 kj_0 rfl ?_
  refine lstore_n_3 (q := 2) dX12_sumBy_1 rfl rfl rfl ?_
  refine Ev.iconst (q := 3) dX12_sumBy_2 ki_0 rfl ?_
  refine istore_5 (q := 5) dX12_sumBy_3 rfl rfl rfl ?_
  exact l_sumBy P hP l lit hI hl hlit P 0 (by omega) m (Fr.rf _ _) rfl
set_option maxRecDepth 4000 in
theorem l_latestBy {Γ : Gm} {d : Nat} {m0 : Mem} (P : Nat) (hP : m0 212 3 = P) (l lit : Nat) (hI : HI (m0 212)) (hl : (l : Int) < m0 212 2) (hlit : litOk (m0 212) l lit) : ∀ (n p : Nat), p + n = P → ∀ (v5 : Vl) (m : Mem), Fr sBe m0 m → m 212 = m0 212 → Em Γ (d + 5) MX12_latestBy (fun r m' => r = latV (m0 212) l lit ∧ Fr sBe m0 m') 5 [rv 211, iv l, iv lit, iv (latN (m0 212) l lit p), iv p, v5] [] m := by
  intro n
  induction n with
  | zero =>
    intro p hp v5 m hF0 g12
    obtain rfl : P = p := by omega
    have hP8 := hI.2.2.1
    have hL3 := hI.2.1
    refine Ev.iload (q := 7) dX12_latestBy_5 rfl rfl ?_
    refine Ev.aload_n (q := 8) dX12_latestBy_7 rfl rfl ?_
    refine gR (q := 11) dX12_latestBy_8 gfX12_13 k211 r211_1 rfl rfl ?_
    refine Ev.iconst (q := 12) dX12_latestBy_11 ki_3 rfl ?_
    refine aI (q := 13) (k := 3) dX12_latestBy_12 k212 (by rfl) (by decide) rfl ?_
    refine Ev.icmp_ge (tgt := 61) (q := 16) dX12_latestBy_13 (by decide) rfl (fun h1 => ?_) (fun h1 => ?_)
    · skip
      refine Ev.iload_n (q := 62) dX12_latestBy_61 rfl rfl ?_
      refine rI dX12_latestBy_62 rfl ?_
      exact ⟨by unfold latV; rw [hP, Int.toNat_natCast], hF0⟩
    · skip
      rw [g12] at h1; omega
  | succ n ih =>
    intro p hp v5 m hF0 g12
    have hP8 := hI.2.2.1
    have hL3 := hI.2.1
    refine Ev.iload (q := 7) dX12_latestBy_5 rfl rfl ?_
    refine Ev.aload_n (q := 8) dX12_latestBy_7 rfl rfl ?_
    refine gR (q := 11) dX12_latestBy_8 gfX12_13 k211 r211_1 rfl rfl ?_
    refine Ev.iconst (q := 12) dX12_latestBy_11 ki_3 rfl ?_
    refine aI (q := 13) (k := 3) dX12_latestBy_12 k212 (by rfl) (by decide) rfl ?_
    refine Ev.icmp_ge (tgt := 61) (q := 16) dX12_latestBy_13 (by decide) rfl (fun h1 => ?_) (fun h1 => ?_)
    · skip
      rw [g12] at h1; omega
    · skip
      refine Ev.aload_n (q := 17) dX12_latestBy_16 rfl rfl ?_
      refine gR (q := 20) dX12_latestBy_17 gfX12_13 k211 r211_1 rfl rfl ?_
      refine Ev.bipush (q := 22) dX12_latestBy_20 kb_88 rfl ?_
      refine Ev.iload (q := 24) dX12_latestBy_22 rfl rfl ?_
      refine Ev.iadd (q := 25) dX12_latestBy_24 rfl ?_
      refine aI (q := 26) (k := 88 + p) dX12_latestBy_25 k212 (by first | rfl | omega | (simp (disch := omega) only [w32_of]; omega)) (by omega) rfl ?_
      refine Ev.iload_n (q := 27) dX12_latestBy_26 rfl rfl ?_
      rw [g12]
      refine Ev.icmp_eq (tgt := 33) (q := 30) dX12_latestBy_27 (by decide) rfl (fun h2 => ?_) (fun h2 => ?_)
      · skip
        have hin : m0 212 (88 + p) = l := by assumption
        refine Ev.aload_n (q := 34) dX12_latestBy_33 rfl rfl ?_
        refine Ev.iload (q := 36) dX12_latestBy_34 rfl rfl ?_
        refine Ev.iload_n (q := 37) dX12_latestBy_36 rfl rfl ?_
        refine cV2i (q := 40) (d' := d + 4) dX12_latestBy_37 mlX12_358 moX12_bestBy mvX12_bestBy k211 rfl rfl rfl (Nat.le_refl _) rfl rfl rfl (p_X12_bestBy p lit (by rw [g12]; exact hI) (by rw [g12]; omega) (by rw [g12]; exact hlit.1) (fun _ => by rw [g12, hin]; simp only [Int.toNat_natCast]; exact hlit.2)) (fun r3 m3 e3 => ?_)
        obtain ⟨rfl, hout, hfr⟩ := e3
        rw [g12]
        have hF2 := hF0.tr hfr
        generalize m3 = M2 at *
        have g2 : M2 212 = m0 212 := by rw [hfr.row 212 (fun _ => rfl)]; exact g12
        refine istore_5 (q := 42) dX12_latestBy_40 rfl rfl rfl ?_
        refine Ev.iload (q := 44) dX12_latestBy_42 rfl rfl ?_
        refine Ev.iload_n (q := 45) dX12_latestBy_44 rfl rfl ?_
        refine Ev.icmp_le (tgt := 53) (q := 48) dX12_latestBy_45 (by decide) rfl (fun h4 => ?_) (fun h4 => ?_)
        · skip
          refine Ev.iload_n (q := 54) dX12_latestBy_53 rfl rfl ?_
          refine istore_n_3 (q := 55) dX12_latestBy_54 rfl rfl rfl ?_
          refine iinc_4 (q := 58) dX12_latestBy_55 rfl rfl rfl ?_
          refine Ev.goto (q := 5) dX12_latestBy_58 (by decide) ?_
          rw [w32_of (by omega) (by omega)]
          have hk := ih (p + 1) (by omega) (iv (bestV (m0 212) p lit).1) _ hF2 g2
          rw [show latN (m0 212) l lit (p + 1) = latN (m0 212) l lit p by conv => lhs; unfold latN; rw [if_pos hin, if_neg (by omega)]] at hk
          exact hk
        · skip
          refine Ev.iload (q := 50) dX12_latestBy_48 rfl rfl ?_
          refine Ev.goto (q := 54) dX12_latestBy_50 (by decide) ?_
          refine istore_n_3 (q := 55) dX12_latestBy_54 rfl rfl rfl ?_
          refine iinc_4 (q := 58) dX12_latestBy_55 rfl rfl rfl ?_
          refine Ev.goto (q := 5) dX12_latestBy_58 (by decide) ?_
          rw [w32_of (by omega) (by omega)]
          have hk := ih (p + 1) (by omega) (iv (bestV (m0 212) p lit).1) _ hF2 g2
          rw [show latN (m0 212) l lit (p + 1) = (bestV (m0 212) p lit).1 by conv => lhs; unfold latN; rw [if_pos hin, if_pos (by omega)]] at hk
          exact hk
      · skip
        have hin : ¬ m0 212 (88 + p) = l := by assumption
        refine Ev.goto (q := 55) dX12_latestBy_30 (by decide) ?_
        refine iinc_4 (q := 58) dX12_latestBy_55 rfl rfl rfl ?_
        refine Ev.goto (q := 5) dX12_latestBy_58 (by decide) ?_
        rw [w32_of (by omega) (by omega)]
        have hk := ih (p + 1) (by omega) v5 _ hF0 g12
        rw [show latN (m0 212) l lit (p + 1) = latN (m0 212) l lit p by conv => lhs; unfold latN; rw [if_neg hin]] at hk
        exact hk
set_option maxRecDepth 4000 in
theorem p_X12_latestBy {Γ : Gm} {d : Nat} {m : Mem}  (l lit : Nat) (hI : HI (m 212)) (hl : (l : Int) < m 212 2) (hlit : litOk (m 212) l lit) : Ci Γ (d + 5) MX12_latestBy [rv 211, iv l, iv lit] m (fun r m' => r = latV (m 212) l lit ∧ Fr sBe m m') := by
  refine Ci.of moX12_latestBy rfl rfl (fun hA hM => ?_)
  show Em Γ (d + 5) MX12_latestBy _ 0 [rv 211, iv l, iv lit, uv, uv, uv] [] m
  have hP8 := hI.2.2.1
  obtain ⟨P, hP⟩ : ∃ P : Nat, m 212 3 = P := ⟨(m 212 3).toNat, by omega⟩
  refine Ev.iconst (q := 1) dX12_latestBy_0 ki_0 rfl ?_
  refine istore_n_3 (q := 2) dX12_latestBy_1 rfl rfl rfl ?_
  refine Ev.iconst (q := 3) dX12_latestBy_2 ki_0 rfl ?_
  refine istore_4 (q := 5) dX12_latestBy_3 rfl rfl rfl ?_
  exact l_latestBy P hP l lit hI hl hlit P 0 (by omega) uv m (Fr.rf _ _) rfl
def valV (g : Nat → Int) (l lit : Nat) (fair : Bool) : Int := if fair = true then latV g l lit else sumV g l lit
set_option maxRecDepth 4000 in
theorem p_X12_valueBy_true {Γ : Gm} {d : Nat} {m : Mem}  (l lit : Nat) (hI : HI (m 212)) (hl : (l : Int) < m 212 2) (hlit : litOk (m 212) l lit) : Ci Γ (d + 6) MX12_valueBy [rv 211, iv l, iv lit, iv 1] m (fun r m' => r = valV (m 212) l lit true ∧ Fr sBe m m') := by
  refine Ci.of moX12_valueBy rfl rfl (fun hA hM => ?_)
  show Em Γ (d + 6) MX12_valueBy _ 0 [rv 211, iv l, iv lit, iv 1] [] m
  refine Ev.iload_n (q := 1) dX12_valueBy_0 rfl rfl ?_
  refine Ev.if_eq (tgt := 14) (q := 4) dX12_valueBy_1 (by decide) rfl (fun h1 => ?_) (fun h1 => ?_)
  · skip
    omega
  · skip
    refine Ev.aload_n (q := 5) dX12_valueBy_4 rfl rfl ?_
    refine Ev.iload_n (q := 6) dX12_valueBy_5 rfl rfl ?_
    refine Ev.iload_n (q := 7) dX12_valueBy_6 rfl rfl ?_
    refine cV2i (q := 10) (d' := d + 5) dX12_valueBy_7 mlX12_370 moX12_latestBy mvX12_latestBy k211 rfl rfl rfl (Nat.le_refl _) rfl rfl rfl (p_X12_latestBy l lit hI hl hlit) (fun r2 m2 e2 => ?_)
    obtain ⟨rfl, hfr⟩ := e2
    refine Ev.i2l (q := 11) dX12_valueBy_10 rfl ?_
    refine Ev.goto (q := 20) dX12_valueBy_11 (by decide) ?_
    refine rJ dX12_valueBy_20 rfl ?_
    exact ⟨rfl, hfr⟩
set_option maxRecDepth 4000 in
theorem p_X12_valueBy_false {Γ : Gm} {d : Nat} {m : Mem}  (l lit : Nat) (hI : HI (m 212)) (hl : (l : Int) < m 212 2) (hlit : litOk (m 212) l lit) : Ci Γ (d + 6) MX12_valueBy [rv 211, iv l, iv lit, iv 0] m (fun r m' => r = valV (m 212) l lit false ∧ Fr sBe m m') := by
  refine Ci.of moX12_valueBy rfl rfl (fun hA hM => ?_)
  show Em Γ (d + 6) MX12_valueBy _ 0 [rv 211, iv l, iv lit, iv 0] [] m
  refine Ev.iload_n (q := 1) dX12_valueBy_0 rfl rfl ?_
  refine Ev.if_eq (tgt := 14) (q := 4) dX12_valueBy_1 (by decide) rfl (fun h1 => ?_) (fun h1 => ?_)
  · skip
    refine Ev.aload_n (q := 15) dX12_valueBy_14 rfl rfl ?_
    refine Ev.iload_n (q := 16) dX12_valueBy_15 rfl rfl ?_
    refine Ev.iload_n (q := 17) dX12_valueBy_16 rfl rfl ?_
    refine cV2j (q := 20) (d' := d + 5) dX12_valueBy_17 mlX12_364 moX12_sumBy mvX12_sumBy k211 rfl rfl rfl (Nat.le_refl _) rfl rfl rfl (p_X12_sumBy l lit hI hl hlit) (fun r2 m2 e2 => ?_)
    obtain ⟨rfl, hfr⟩ := e2
    refine rJ dX12_valueBy_20 rfl ?_
    exact ⟨rfl, hfr⟩
  · skip
    omega
