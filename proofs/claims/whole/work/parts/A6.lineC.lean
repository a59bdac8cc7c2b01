/-! ===== the class: a line ===== -/
theorem lfR_T {tx : Nat → Int} {N l : Nat} : ∀ (n : Nat) (t : Tok) (f : Row) (b : Tok × Row), tT tx N t → RI f → lfR tx N l n t f = .inr b → tT tx N b.1 := by
  intro n
  induction n with
  | zero => intro t f b hT hR h; unfold lfR at h; cases h; exact hT
  | succ n ih =>
    intro t f b hT hR h
    rw [lfR_1] at h
    cases hx : lf1 tx N l t f with
    | none => rw [hx] at h; cases h; exact hT
    | some x =>
      rw [hx] at h
      cases x with
      | inl e => cases h
      | inr a => exact ih a.1 a.2 b (lf1_T hT hR hx) (lf1_ok hT.ok hR hx).2.2.1 h
theorem pfR_T {tx : Nat → Int} {N p : Nat} : ∀ (n : Nat) (t : Tok) (f : Row) (b : Tok × Row), tT tx N t → pfR tx N p n t f = .inr b → tT tx N b.1 := by
  intro n
  induction n with
  | zero => intro t f b hT h; unfold pfR at h; cases h; exact hT
  | succ n ih =>
    intro t f b hT h
    rw [pfR_1] at h
    cases hx : pf1 tx N p t f with
    | none => rw [hx] at h; cases h; exact hT
    | some x =>
      rw [hx] at h
      cases x with
      | inl e => cases h
      | inr a => exact ih a.1 a.2 b (pf1_T hT hx) h
theorem ln_T {tx : Nat → Int} {N : Nat} {t : Tok} {f : Row} {a : Tok × Row} (hT : tT tx N t) (hR : RI f) (h : lnS tx N t f = .inr a) : tT tx N a.1 := by
  have hR' := hR
  obtain ⟨hR1, hR2, hR3⟩ := hR'
  have lw : ∀ law, lwS tx N law t f = .inr a → tT tx N a.1 := by
    intro law h
    unfold lwS at h
    obtain ⟨t1, h1, h⟩ := bE_inv h
    obtain ⟨b, h2, h⟩ := bE_inv h
    cases h
    exact ps_T _ _ _ _ b (ea_T hT.nx (by decide) h1).2.1 h2
  unfold lnS at h
  split at h
  · unfold liS at h
    split at h
    · cases h
    · obtain ⟨t1, h1, h⟩ := bE_inv h
      obtain ⟨b, h2, h⟩ := bE_inv h
      obtain ⟨c, h3, h⟩ := bE_inv h
      cases h
      exact lfR_T _ _ _ c (nu_T (ea_T hT.nx (by decide) h1).2.1 h2).2.2.1 ((((hR.up (by omega) _).up (by omega) _).up (by omega) _).up (by omega) _) h3
  · split at h
    · unfold peS at h
      split at h
      · cases h
      · obtain ⟨t1, h1, h⟩ := bE_inv h
        obtain ⟨b, h2, h⟩ := bE_inv h
        obtain ⟨c, h3, h⟩ := bE_inv h
        cases h
        exact pfR_T _ _ _ c (nu_T (ea_T hT.nx (by decide) h1).2.1 h2).2.2.1 h3
    · split at h
      · exact lw _ h
      · split at h
        · exact lw _ h
        · split at h
          · unfold caS at h
            obtain ⟨b, h1, h⟩ := bE_inv h
            obtain ⟨t1, h2, h⟩ := bE_inv h
            obtain ⟨c, h3, h⟩ := bE_inv h
            cases h
            exact (nu_T (ea_T (nu_T hT.nx h1).2.2.1 (by decide) h2).2.1 h3).2.2.1
          · cases h
theorem chk_inv {x : Er (Tok × Row)} {a : Tok × Row} (h : bE x chk = .inr a) : x = .inr a := by
  obtain ⟨b, h1, h2⟩ := bE_inv h
  unfold chk at h2
  split at h2
  · cases h2; exact h1
  · cases h2
theorem chk_en (tx : Nat → Int) (N : Nat) (x : Er (Tok × Row)) : (bE x fun a => enS tx N a.1 a.2) = bE (bE x chk) fun a => enS tx N a.1 a.2 := by
  cases x with
  | inl e => rfl
  | inr a =>
    show enS tx N a.1 a.2 = bE (chk a) _
    unfold chk
    split
    · rfl
    · rename_i h
      unfold enS eaS
      rw [if_neg h]
      rfl
set_option maxRecDepth 4000 in
theorem p_X6_readLine {Γ : Gm} {d : Nat} {m : Mem} (tx : Nat → Int) (N : Nat) (t : Tok) (f : Row) (hN : N ≤ 900) (hC : TC m tx N) (hT9 : tT tx N t) (h : OKc m t) (hR : RC m f (f 2).toNat (f 3).toNat) (hRI : RI f) (hZ : ZI f) (h457 : 0 ≤ f 457 ∧ f 457 ≤ t.2.1) (hW : WB f) (h24 : ¬ t.1 = 24) (h0 : 0 ≤ f 0 ∧ f 0 ≤ 2000) : Ci Γ (d + 10) MX6_readLine [rv 2] m (fun r m' => PMe m' (bE (lnS tx N t f) fun a => enS tx N a.1 a.2) ∧ Fr sPc m m') := by
  refine Ci.of moX6_readLine rfl rfl (fun hA hM => ?_)
  show Em Γ (d + 10) MX6_readLine _ 0 [rv 2] [] m
  have kq1 : ((kwOf 1 : Nat) : Int) = 1 := by decide
  have kq7 : ((kwOf 7 : Nat) : Int) = 7 := by decide
  have kq13 : ((kwOf 13 : Nat) : Int) = 13 := by decide
  have kq14 : ((kwOf 16 : Nat) : Int) = 14 := by decide
  have kq15 : ((kwOf 17 : Nat) : Int) = 15 := by decide
  refine Ev.aload_n (q := 1) dX6_readLine_0 rfl rfl ?_
  refine gR (q := 4) dX6_readLine_1 gfX6_35 k2 r2_4 rfl rfl ?_
  refine Ev.ldcS (q := 6) dX6_readLine_4 (i := 1) rfl rfl ?_
  refine cV1i (q := 9) (d' := d + 9) dX6_readLine_6 mlX6_93 moX8_isWord mvX8_isWord k22 rfl rfl rfl (Nat.le_refl _) rfl rfl rfl (p_X8_isWord tx N t 1 hN hC hT9 h.2 (by decide)) (fun r1 m1 e1 => ?_)
  obtain ⟨rfl, e1⟩ := e1
  obtain rfl := e1.symm
  refine Ev.if_eq (tgt := 19) (q := 12) dX6_readLine_9 (by decide) rfl (fun h2 => ?_) (fun h2 => ?_)
  · skip
    have g1 : ¬ t.1 = 1 := fun z => by rw [kq1, if_pos z] at h2; omega
    refine Ev.aload_n (q := 20) dX6_readLine_19 rfl rfl ?_
    refine gR (q := 23) dX6_readLine_20 gfX6_35 k2 r2_4 rfl rfl ?_
    refine Ev.ldcS (q := 25) dX6_readLine_23 (i := 7) rfl rfl ?_
    refine cV1i (q := 28) (d' := d + 9) dX6_readLine_25 mlX6_93 moX8_isWord mvX8_isWord k22 rfl rfl rfl (Nat.le_refl _) rfl rfl rfl (p_X8_isWord tx N t 7 hN hC hT9 h.2 (by decide)) (fun r3 m3 e3 => ?_)
    obtain ⟨rfl, e3⟩ := e3
    obtain rfl := e3.symm
    refine Ev.if_eq (tgt := 38) (q := 31) dX6_readLine_28 (by decide) rfl (fun h4 => ?_) (fun h4 => ?_)
    · skip
      have g7 : ¬ t.1 = 7 := fun z => by rw [kq7, if_pos z] at h4; omega
      refine Ev.aload_n (q := 39) dX6_readLine_38 rfl rfl ?_
      refine gR (q := 42) dX6_readLine_39 gfX6_35 k2 r2_4 rfl rfl ?_
      refine Ev.ldcS (q := 44) dX6_readLine_42 (i := 13) rfl rfl ?_
      refine cV1i (q := 47) (d' := d + 9) dX6_readLine_44 mlX6_93 moX8_isWord mvX8_isWord k22 rfl rfl rfl (Nat.le_refl _) rfl rfl rfl (p_X8_isWord tx N t 13 hN hC hT9 h.2 (by decide)) (fun r5 m5 e5 => ?_)
      obtain ⟨rfl, e5⟩ := e5
      obtain rfl := e5.symm
      refine Ev.if_eq (tgt := 62) (q := 50) dX6_readLine_47 (by decide) rfl (fun h6 => ?_) (fun h6 => ?_)
      · skip
        have g13 : ¬ t.1 = 13 := fun z => by rw [kq13, if_pos z] at h6; omega
        refine Ev.aload_n (q := 63) dX6_readLine_62 rfl rfl ?_
        refine gR (q := 66) dX6_readLine_63 gfX6_35 k2 r2_4 rfl rfl ?_
        refine Ev.ldcS (q := 68) dX6_readLine_66 (i := 16) rfl rfl ?_
        refine cV1i (q := 71) (d' := d + 9) dX6_readLine_68 mlX6_93 moX8_isWord mvX8_isWord k22 rfl rfl rfl (Nat.le_refl _) rfl rfl rfl (p_X8_isWord tx N t 16 hN hC hT9 h.2 (by decide)) (fun r7 m7 e7 => ?_)
        obtain ⟨rfl, e7⟩ := e7
        obtain rfl := e7.symm
        refine Ev.if_eq (tgt := 86) (q := 74) dX6_readLine_71 (by decide) rfl (fun h8 => ?_) (fun h8 => ?_)
        · skip
          have g14 : ¬ t.1 = 14 := fun z => by rw [kq14, if_pos z] at h8; omega
          refine Ev.aload_n (q := 87) dX6_readLine_86 rfl rfl ?_
          refine gR (q := 90) dX6_readLine_87 gfX6_35 k2 r2_4 rfl rfl ?_
          refine Ev.ldcS (q := 92) dX6_readLine_90 (i := 17) rfl rfl ?_
          refine cV1i (q := 95) (d' := d + 9) dX6_readLine_92 mlX6_93 moX8_isWord mvX8_isWord k22 rfl rfl rfl (Nat.le_refl _) rfl rfl rfl (p_X8_isWord tx N t 17 hN hC hT9 h.2 (by decide)) (fun r9 m9 e9 => ?_)
          obtain ⟨rfl, e9⟩ := e9
          obtain rfl := e9.symm
          refine Ev.if_eq (tgt := 105) (q := 98) dX6_readLine_95 (by decide) rfl (fun h10 => ?_) (fun h10 => ?_)
          · skip
            have g15 : ¬ t.1 = 15 := fun z => by rw [kq15, if_pos z] at h10; omega
            refine Ev.aload_n (q := 106) dX6_readLine_105 rfl rfl ?_
            refine Ev.iconst (q := 107) dX6_readLine_106 ki_2 rfl ?_
            refine cV1v (q := 110) (d' := d + 9) dX6_readLine_107 mlX6_118 moX6_fail mvX6_fail k2 rfl rfl rfl (Nat.le_refl _) rfl rfl rfl (p_X6_fail tx N t 2 hT9 (by decide) h) (fun r11 m11 e11 => ?_)
            obtain ⟨M8, rfl⟩ : ∃ M8, M8 = m11 := ⟨_, rfl⟩
            obtain ⟨b1, b2, b3⟩ := e11
            have x8 : PMe M8 (flS t 2) := b1
            have f8 : Fr sPc m M8 := b2.pc
            have hln : (bE (lnS tx N t f) fun a => enS tx N a.1 a.2) = bE ((flS t 2 : Er (Tok × Row))) fun a => enS tx N a.1 a.2 := by unfold lnS; rw [if_neg g1, if_neg g7, if_neg g13, if_neg g14, if_neg g15]
            obtain ⟨y9, hy9⟩ : ∃ y9 : Er (Tok × Row), y9 = (flS t 2 : Er (Tok × Row)) := ⟨_, rfl⟩
            rw [← hy9] at x8 hln
            rw [hln]
            cases y9 with
            | inl e =>
              have x8 : BDc M8 e := x8
              refine Ev.aload_n (q := 111) dX6_readLine_110 rfl rfl ?_
              refine cV0v (q := 114) (d' := d + 9) dX6_readLine_111 mlX6_76 moX6_endLine mvX6_endLine k2 rfl rfl rfl (Nat.le_refl _) rfl rfl rfl (p_X6_endLine_bd e x8) (fun r31 m31 e31 => ?_)
              obtain rfl := e31
              refine rV dX6_readLine_114 rfl ?_
              exact ⟨x8, f8⟩
            | inr a =>
              obtain ⟨x8, hR8⟩ : OKc M8 a.1 ∧ RC M8 a.2 (a.2 2).toNat (a.2 3).toNat := x8
              have hlna : lnS tx N t f = .inr a := by unfold lnS; rw [if_neg g1, if_neg g7, if_neg g13, if_neg g14, if_neg g15]; exact hy9.symm
              refine Ev.aload_n (q := 111) dX6_readLine_110 rfl rfl ?_
              refine cV0v (q := 114) (d' := d + 9) dX6_readLine_111 mlX6_76 moX6_endLine mvX6_endLine k2 rfl rfl rfl (Nat.le_refl _) rfl rfl rfl (p_X6_endLine tx N a.1 a.2 hN (hC.p (f8)) (ln_T hT9 hRI hlna) x8 hR8 (by rw [(ln_ok hT9.ok hRI h457 hlna).2.2.2.2]; exact h0)) (fun r31 m31 e31 => ?_)
              obtain ⟨M7, rfl⟩ : ∃ M7, M7 = m31 := ⟨_, rfl⟩
              obtain ⟨x7, f7⟩ := e31
              refine rV dX6_readLine_114 rfl ?_
              exact ⟨x7, (f8).tr f7⟩
          · skip
            have g15 : t.1 = 15 := Classical.byContradiction fun z => by rw [kq15, if_neg z] at h10; omega
            refine Ev.aload_n (q := 99) dX6_readLine_98 rfl rfl ?_
            refine cV0v (q := 102) (d' := d + 9) dX6_readLine_99 mlX6_115 moX6_readCalls mvX6_readCalls k2 rfl rfl rfl (Nat.le_refl _) rfl rfl rfl (p_X6_readCalls tx N t f hN hC hT9 h hR hRI hZ) (fun r12 m12 e12 => ?_)
            obtain ⟨M8, rfl⟩ : ∃ M8, M8 = m12 := ⟨_, rfl⟩
            obtain ⟨x8, f8⟩ := e12
            refine Ev.goto (q := 110) dX6_readLine_102 (by decide) ?_
            have hln : (bE (lnS tx N t f) fun a => enS tx N a.1 a.2) = bE (caS tx N t f) fun a => enS tx N a.1 a.2 := by unfold lnS; rw [if_neg g1, if_neg g7, if_neg g13, if_neg g14, if_pos g15]
            obtain ⟨y9, hy9⟩ : ∃ y9 : Er (Tok × Row), y9 = caS tx N t f := ⟨_, rfl⟩
            rw [← hy9] at x8 hln
            rw [hln]
            cases y9 with
            | inl e =>
              have x8 : BDc M8 e := x8
              refine Ev.aload_n (q := 111) dX6_readLine_110 rfl rfl ?_
              refine cV0v (q := 114) (d' := d + 9) dX6_readLine_111 mlX6_76 moX6_endLine mvX6_endLine k2 rfl rfl rfl (Nat.le_refl _) rfl rfl rfl (p_X6_endLine_bd e x8) (fun r31 m31 e31 => ?_)
              obtain rfl := e31
              refine rV dX6_readLine_114 rfl ?_
              exact ⟨x8, f8⟩
            | inr a =>
              obtain ⟨x8, hR8⟩ : OKc M8 a.1 ∧ RC M8 a.2 (a.2 2).toNat (a.2 3).toNat := x8
              have hlna : lnS tx N t f = .inr a := by unfold lnS; rw [if_neg g1, if_neg g7, if_neg g13, if_neg g14, if_pos g15]; exact hy9.symm
              refine Ev.aload_n (q := 111) dX6_readLine_110 rfl rfl ?_
              refine cV0v (q := 114) (d' := d + 9) dX6_readLine_111 mlX6_76 moX6_endLine mvX6_endLine k2 rfl rfl rfl (Nat.le_refl _) rfl rfl rfl (p_X6_endLine tx N a.1 a.2 hN (hC.p (f8)) (ln_T hT9 hRI hlna) x8 hR8 (by rw [(ln_ok hT9.ok hRI h457 hlna).2.2.2.2]; exact h0)) (fun r31 m31 e31 => ?_)
              obtain ⟨M7, rfl⟩ : ∃ M7, M7 = m31 := ⟨_, rfl⟩
              obtain ⟨x7, f7⟩ := e31
              refine rV dX6_readLine_114 rfl ?_
              exact ⟨x7, (f8).tr f7⟩
        · skip
          have g14 : t.1 = 14 := Classical.byContradiction fun z => by rw [kq14, if_neg z] at h8; omega
          refine Ev.aload_n (q := 75) dX6_readLine_74 rfl rfl ?_
          refine Ev.aload_n (q := 76) dX6_readLine_75 rfl rfl ?_
          refine gR (q := 79) dX6_readLine_76 gfX6_50 k2 r2_7 rfl rfl ?_
          refine Ev.iconst (q := 80) dX6_readLine_79 ki_0 rfl ?_
          refine cV2v (q := 83) (d' := d + 9) dX6_readLine_80 mlX6_107 moX6_readLaw mvX6_readLaw k2 rfl rfl rfl (Nat.le_refl _) rfl rfl rfl (p_X6_readLaw tx N t f 1 29 0 hN hC hT9 h hR hRI hZ (Or.inr ⟨rfl, rfl, rfl⟩) h457 hW h24) (fun r13 m13 e13 => ?_)
          obtain ⟨M8, rfl⟩ : ∃ M8, M8 = m13 := ⟨_, rfl⟩
          obtain ⟨x8, f8⟩ := e13
          refine Ev.goto (q := 110) dX6_readLine_83 (by decide) ?_
          have hln : (bE (lnS tx N t f) fun a => enS tx N a.1 a.2) = bE (bE (lwS tx N 1 t f) chk) fun a => enS tx N a.1 a.2 := by unfold lnS; rw [if_neg g1, if_neg g7, if_neg g13, if_pos g14]; exact chk_en _ _ _
          obtain ⟨y9, hy9⟩ : ∃ y9 : Er (Tok × Row), y9 = bE (lwS tx N 1 t f) chk := ⟨_, rfl⟩
          rw [← hy9] at x8 hln
          rw [hln]
          cases y9 with
          | inl e =>
            have x8 : BDc M8 e := x8
            refine Ev.aload_n (q := 111) dX6_readLine_110 rfl rfl ?_
            refine cV0v (q := 114) (d' := d + 9) dX6_readLine_111 mlX6_76 moX6_endLine mvX6_endLine k2 rfl rfl rfl (Nat.le_refl _) rfl rfl rfl (p_X6_endLine_bd e x8) (fun r31 m31 e31 => ?_)
            obtain rfl := e31
            refine rV dX6_readLine_114 rfl ?_
            exact ⟨x8, f8⟩
          | inr a =>
            obtain ⟨x8, hR8⟩ : OKc M8 a.1 ∧ RC M8 a.2 (a.2 2).toNat (a.2 3).toNat := x8
            have hlna : lnS tx N t f = .inr a := by unfold lnS; rw [if_neg g1, if_neg g7, if_neg g13, if_pos g14]; exact chk_inv hy9.symm
            refine Ev.aload_n (q := 111) dX6_readLine_110 rfl rfl ?_
            refine cV0v (q := 114) (d' := d + 9) dX6_readLine_111 mlX6_76 moX6_endLine mvX6_endLine k2 rfl rfl rfl (Nat.le_refl _) rfl rfl rfl (p_X6_endLine tx N a.1 a.2 hN (hC.p (f8)) (ln_T hT9 hRI hlna) x8 hR8 (by rw [(ln_ok hT9.ok hRI h457 hlna).2.2.2.2]; exact h0)) (fun r31 m31 e31 => ?_)
            obtain ⟨M7, rfl⟩ : ∃ M7, M7 = m31 := ⟨_, rfl⟩
            obtain ⟨x7, f7⟩ := e31
            refine rV dX6_readLine_114 rfl ?_
            exact ⟨x7, (f8).tr f7⟩
      · skip
        have g13 : t.1 = 13 := Classical.byContradiction fun z => by rw [kq13, if_neg z] at h6; omega
        refine Ev.aload_n (q := 51) dX6_readLine_50 rfl rfl ?_
        refine Ev.aload_n (q := 52) dX6_readLine_51 rfl rfl ?_
        refine gR (q := 55) dX6_readLine_52 gfX6_46 k2 r2_6 rfl rfl ?_
        refine Ev.iconst (q := 56) dX6_readLine_55 ki_1 rfl ?_
        refine cV2v (q := 59) (d' := d + 9) dX6_readLine_56 mlX6_107 moX6_readLaw mvX6_readLaw k2 rfl rfl rfl (Nat.le_refl _) rfl rfl rfl (p_X6_readLaw tx N t f 0 25 1 hN hC hT9 h hR hRI hZ (Or.inl ⟨rfl, rfl, rfl⟩) h457 hW h24) (fun r14 m14 e14 => ?_)
        obtain ⟨M8, rfl⟩ : ∃ M8, M8 = m14 := ⟨_, rfl⟩
        obtain ⟨x8, f8⟩ := e14
        refine Ev.goto (q := 110) dX6_readLine_59 (by decide) ?_
        have hln : (bE (lnS tx N t f) fun a => enS tx N a.1 a.2) = bE (bE (lwS tx N 0 t f) chk) fun a => enS tx N a.1 a.2 := by unfold lnS; rw [if_neg g1, if_neg g7, if_pos g13]; exact chk_en _ _ _
        obtain ⟨y9, hy9⟩ : ∃ y9 : Er (Tok × Row), y9 = bE (lwS tx N 0 t f) chk := ⟨_, rfl⟩
        rw [← hy9] at x8 hln
        rw [hln]
        cases y9 with
        | inl e =>
          have x8 : BDc M8 e := x8
          refine Ev.aload_n (q := 111) dX6_readLine_110 rfl rfl ?_
          refine cV0v (q := 114) (d' := d + 9) dX6_readLine_111 mlX6_76 moX6_endLine mvX6_endLine k2 rfl rfl rfl (Nat.le_refl _) rfl rfl rfl (p_X6_endLine_bd e x8) (fun r31 m31 e31 => ?_)
          obtain rfl := e31
          refine rV dX6_readLine_114 rfl ?_
          exact ⟨x8, f8⟩
        | inr a =>
          obtain ⟨x8, hR8⟩ : OKc M8 a.1 ∧ RC M8 a.2 (a.2 2).toNat (a.2 3).toNat := x8
          have hlna : lnS tx N t f = .inr a := by unfold lnS; rw [if_neg g1, if_neg g7, if_pos g13]; exact chk_inv hy9.symm
          refine Ev.aload_n (q := 111) dX6_readLine_110 rfl rfl ?_
          refine cV0v (q := 114) (d' := d + 9) dX6_readLine_111 mlX6_76 moX6_endLine mvX6_endLine k2 rfl rfl rfl (Nat.le_refl _) rfl rfl rfl (p_X6_endLine tx N a.1 a.2 hN (hC.p (f8)) (ln_T hT9 hRI hlna) x8 hR8 (by rw [(ln_ok hT9.ok hRI h457 hlna).2.2.2.2]; exact h0)) (fun r31 m31 e31 => ?_)
          obtain ⟨M7, rfl⟩ : ∃ M7, M7 = m31 := ⟨_, rfl⟩
          obtain ⟨x7, f7⟩ := e31
          refine rV dX6_readLine_114 rfl ?_
          exact ⟨x7, (f8).tr f7⟩
    · skip
      have g7 : t.1 = 7 := Classical.byContradiction fun z => by rw [kq7, if_neg z] at h4; omega
      refine Ev.aload_n (q := 32) dX6_readLine_31 rfl rfl ?_
      refine cV0v (q := 35) (d' := d + 9) dX6_readLine_32 mlX6_102 moX6_readPerson mvX6_readPerson k2 rfl rfl rfl (Nat.le_refl _) rfl rfl rfl (p_X6_readPerson tx N t f hN hC hT9 h hR hRI hZ h24) (fun r15 m15 e15 => ?_)
      obtain ⟨M8, rfl⟩ : ∃ M8, M8 = m15 := ⟨_, rfl⟩
      obtain ⟨x8, f8⟩ := e15
      refine Ev.goto (q := 110) dX6_readLine_35 (by decide) ?_
      have hln : (bE (lnS tx N t f) fun a => enS tx N a.1 a.2) = bE (bE (peS tx N t f) chk) fun a => enS tx N a.1 a.2 := by unfold lnS; rw [if_neg g1, if_pos g7]; exact chk_en _ _ _
      obtain ⟨y9, hy9⟩ : ∃ y9 : Er (Tok × Row), y9 = bE (peS tx N t f) chk := ⟨_, rfl⟩
      rw [← hy9] at x8 hln
      rw [hln]
      cases y9 with
      | inl e =>
        have x8 : BDc M8 e := x8
        refine Ev.aload_n (q := 111) dX6_readLine_110 rfl rfl ?_
        refine cV0v (q := 114) (d' := d + 9) dX6_readLine_111 mlX6_76 moX6_endLine mvX6_endLine k2 rfl rfl rfl (Nat.le_refl _) rfl rfl rfl (p_X6_endLine_bd e x8) (fun r31 m31 e31 => ?_)
        obtain rfl := e31
        refine rV dX6_readLine_114 rfl ?_
        exact ⟨x8, f8⟩
      | inr a =>
        obtain ⟨x8, hR8⟩ : OKc M8 a.1 ∧ RC M8 a.2 (a.2 2).toNat (a.2 3).toNat := x8
        have hlna : lnS tx N t f = .inr a := by unfold lnS; rw [if_neg g1, if_pos g7]; exact chk_inv hy9.symm
        refine Ev.aload_n (q := 111) dX6_readLine_110 rfl rfl ?_
        refine cV0v (q := 114) (d' := d + 9) dX6_readLine_111 mlX6_76 moX6_endLine mvX6_endLine k2 rfl rfl rfl (Nat.le_refl _) rfl rfl rfl (p_X6_endLine tx N a.1 a.2 hN (hC.p (f8)) (ln_T hT9 hRI hlna) x8 hR8 (by rw [(ln_ok hT9.ok hRI h457 hlna).2.2.2.2]; exact h0)) (fun r31 m31 e31 => ?_)
        obtain ⟨M7, rfl⟩ : ∃ M7, M7 = m31 := ⟨_, rfl⟩
        obtain ⟨x7, f7⟩ := e31
        refine rV dX6_readLine_114 rfl ?_
        exact ⟨x7, (f8).tr f7⟩
  · skip
    have g1 : t.1 = 1 := Classical.byContradiction fun z => by rw [kq1, if_neg z] at h2; omega
    refine Ev.aload_n (q := 13) dX6_readLine_12 rfl rfl ?_
    refine cV0v (q := 16) (d' := d + 9) dX6_readLine_13 mlX6_97 moX6_readLift mvX6_readLift k2 rfl rfl rfl (Nat.le_refl _) rfl rfl rfl (p_X6_readLift tx N t f hN hC hT9 h hR hRI hZ h24) (fun r16 m16 e16 => ?_)
    obtain ⟨M8, rfl⟩ : ∃ M8, M8 = m16 := ⟨_, rfl⟩
    obtain ⟨x8, f8⟩ := e16
    refine Ev.goto (q := 110) dX6_readLine_16 (by decide) ?_
    have hln : (bE (lnS tx N t f) fun a => enS tx N a.1 a.2) = bE (bE (liS tx N t f) chk) fun a => enS tx N a.1 a.2 := by unfold lnS; rw [if_pos g1]; exact chk_en _ _ _
    obtain ⟨y9, hy9⟩ : ∃ y9 : Er (Tok × Row), y9 = bE (liS tx N t f) chk := ⟨_, rfl⟩
    rw [← hy9] at x8 hln
    rw [hln]
    cases y9 with
    | inl e =>
      have x8 : BDc M8 e := x8
      refine Ev.aload_n (q := 111) dX6_readLine_110 rfl rfl ?_
      refine cV0v (q := 114) (d' := d + 9) dX6_readLine_111 mlX6_76 moX6_endLine mvX6_endLine k2 rfl rfl rfl (Nat.le_refl _) rfl rfl rfl (p_X6_endLine_bd e x8) (fun r31 m31 e31 => ?_)
      obtain rfl := e31
      refine rV dX6_readLine_114 rfl ?_
      exact ⟨x8, f8⟩
    | inr a =>
      obtain ⟨x8, hR8⟩ : OKc M8 a.1 ∧ RC M8 a.2 (a.2 2).toNat (a.2 3).toNat := x8
      have hlna : lnS tx N t f = .inr a := by unfold lnS; rw [if_pos g1]; exact chk_inv hy9.symm
      refine Ev.aload_n (q := 111) dX6_readLine_110 rfl rfl ?_
      refine cV0v (q := 114) (d' := d + 9) dX6_readLine_111 mlX6_76 moX6_endLine mvX6_endLine k2 rfl rfl rfl (Nat.le_refl _) rfl rfl rfl (p_X6_endLine tx N a.1 a.2 hN (hC.p (f8)) (ln_T hT9 hRI hlna) x8 hR8 (by rw [(ln_ok hT9.ok hRI h457 hlna).2.2.2.2]; exact h0)) (fun r31 m31 e31 => ?_)
      obtain ⟨M7, rfl⟩ : ∃ M7, M7 = m31 := ⟨_, rfl⟩
      obtain ⟨x7, f7⟩ := e31
      refine rV dX6_readLine_114 rfl ?_
      exact ⟨x7, (f8).tr f7⟩
