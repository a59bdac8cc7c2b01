/-! ===== the reference: calls, laws, lines ===== -/
set_option maxRecDepth 4000 in
theorem p_X12_readAtom_bd {Γ : Gm} {d : Nat} {m : Mem} (e : Int × Nat) (k : Int) (h : BDm m e) : Ci Γ (d + 1) MX12_readAtom [rv 211, iv k] m (fun r m' => m' = m) := by
  refine Ci.of moX12_readAtom rfl rfl (fun hA hM => ?_)
  show Em Γ (d + 1) MX12_readAtom _ 0 [rv 211, iv k] [] m
  refine Ev.aload_n (q := 1) dX12_readAtom_0 rfl rfl ?_
  refine Ev.bipush (q := 3) dX12_readAtom_1 kb_23 rfl ?_
  refine cV1i (q := 6) (d' := d + 0) dX12_readAtom_3 mlX12_108 moX12_is mvX12_is k211 rfl rfl rfl (Nat.le_refl _) rfl rfl rfl (p_X12_is 23) (fun r1 m1 e1 => ?_)
  obtain ⟨rfl, e1⟩ := e1
  obtain rfl := e1.symm
  rw [is_bd h]
  refine Ev.if_eq (tgt := 24) (q := 9) dX12_readAtom_6 (by decide) rfl (fun h2 => ?_) (fun h2 => ?_)
  · skip
    refine Ev.aload_n (q := 25) dX12_readAtom_24 rfl rfl ?_
    refine gI (q := 28) dX12_readAtom_25 gfX12_102 k211 rfl rfl ?_
    rw [h.1]
    refine Ev.if_ne (tgt := 66) (q := 31) dX12_readAtom_28 (by decide) rfl (fun h3 => ?_) (fun h3 => ?_)
    · skip
      refine Ev.aload_n (q := 67) dX12_readAtom_66 rfl rfl ?_
      refine Ev.bipush (q := 69) dX12_readAtom_67 kb_35 rfl ?_
      refine cV1i (q := 72) (d' := d + 0) dX12_readAtom_69 mlX12_108 moX12_is mvX12_is k211 rfl rfl rfl (Nat.le_refl _) rfl rfl rfl (p_X12_is 35) (fun r4 m4 e4 => ?_)
      obtain ⟨rfl, e4⟩ := e4
      obtain rfl := e4.symm
      rw [is_bd h]
      refine Ev.if_eq (tgt := 108) (q := 75) dX12_readAtom_72 (by decide) rfl (fun h5 => ?_) (fun h5 => ?_)
      · skip
        refine Ev.aload_n (q := 109) dX12_readAtom_108 rfl rfl ?_
        refine Ev.iconst (q := 110) dX12_readAtom_109 ki_2 rfl ?_
        refine cV1v (q := 113) (d' := d + 0) dX12_readAtom_110 mlX12_114 moX12_fails mvX12_fails k211 rfl rfl rfl (Nat.le_refl _) rfl rfl rfl (p_X12_fails_bd e 2 h) (fun r6 m6 e6 => ?_)
        obtain rfl := (show _ = _ from e6).symm
        refine rV dX12_readAtom_113 rfl ?_
        rfl
      · skip
        omega
    · skip
      exact absurd (by assumption) h.2.1
  · skip
    omega
set_option maxRecDepth 4000 in
theorem p_X12_readTerm_bd {Γ : Gm} {d : Nat} {m : Mem} (e : Int × Nat) (k : Int) (h : BDm m e) : Ci Γ (d + 2) MX12_readTerm [rv 211, iv k] m (fun r m' => m' = m) := by
  refine Ci.of moX12_readTerm rfl rfl (fun hA hM => ?_)
  show Em Γ (d + 2) MX12_readTerm _ 0 [rv 211, iv k] [] m
  refine Ev.aload_n (q := 1) dX12_readTerm_0 rfl rfl ?_
  refine Ev.iload_n (q := 2) dX12_readTerm_1 rfl rfl ?_
  refine cV1v (q := 5) (d' := d + 1) dX12_readTerm_2 mlX12_140 moX12_readAtom mvX12_readAtom k211 rfl rfl rfl (Nat.le_refl _) rfl rfl rfl (p_X12_readAtom_bd e k h) (fun r1 m1 e1 => ?_)
  obtain rfl := (show _ = _ from e1).symm
  refine Ev.aload_n (q := 6) dX12_readTerm_5 rfl rfl ?_
  refine Ev.bipush (q := 8) dX12_readTerm_6 kb_34 rfl ?_
  refine cV1i (q := 11) (d' := d + 1) dX12_readTerm_8 mlX12_137 moX12_eats mvX12_eats k211 rfl rfl rfl (Nat.le_refl _) rfl rfl rfl (p_X12_eats_bd e 34 h) (fun r2 m2 e2 => ?_)
  obtain ⟨rfl, e2⟩ := e2
  obtain rfl := e2.symm
  refine Ev.if_eq (tgt := 29) (q := 14) dX12_readTerm_11 (by decide) rfl (fun h3 => ?_) (fun h3 => ?_)
  · skip
    refine rV dX12_readTerm_29 rfl ?_
    rfl
  · skip
    omega
set_option maxRecDepth 4000 in
theorem p_X12_readSum_bd {Γ : Gm} {d : Nat} {m : Mem} (e : Int × Nat) (k : Int) (h : BDm m e) : Ci Γ (d + 3) MX12_readSum [rv 211, iv k] m (fun r m' => m' = m) := by
  refine Ci.of moX12_readSum rfl rfl (fun hA hM => ?_)
  show Em Γ (d + 3) MX12_readSum _ 0 [rv 211, iv k, uv] [] m
  refine Ev.aload_n (q := 1) dX12_readSum_0 rfl rfl ?_
  refine Ev.iload_n (q := 2) dX12_readSum_1 rfl rfl ?_
  refine cV1v (q := 5) (d' := d + 2) dX12_readSum_2 mlX12_143 moX12_readTerm mvX12_readTerm k211 rfl rfl rfl (Nat.le_refl _) rfl rfl rfl (p_X12_readTerm_bd e k h) (fun r1 m1 e1 => ?_)
  obtain rfl := (show _ = _ from e1).symm
  refine Ev.aload_n (q := 6) dX12_readSum_5 rfl rfl ?_
  refine Ev.bipush (q := 8) dX12_readSum_6 kb_32 rfl ?_
  refine cV1i (q := 11) (d' := d + 2) dX12_readSum_8 mlX12_108 moX12_is mvX12_is k211 rfl rfl rfl (Nat.le_refl _) rfl rfl rfl (p_X12_is 32) (fun r2 m2 e2 => ?_)
  obtain ⟨rfl, e2⟩ := e2
  obtain rfl := e2.symm
  rw [is_bd h]
  refine Ev.if_ne (tgt := 23) (q := 14) dX12_readSum_11 (by decide) rfl (fun h3 => ?_) (fun h3 => ?_)
  · skip
    omega
  · skip
    refine Ev.aload_n (q := 15) dX12_readSum_14 rfl rfl ?_
    refine Ev.bipush (q := 17) dX12_readSum_15 kb_33 rfl ?_
    refine cV1i (q := 20) (d' := d + 2) dX12_readSum_17 mlX12_108 moX12_is mvX12_is k211 rfl rfl rfl (Nat.le_refl _) rfl rfl rfl (p_X12_is 33) (fun r4 m4 e4 => ?_)
    obtain ⟨rfl, e4⟩ := e4
    obtain rfl := e4.symm
    rw [is_bd h]
    refine Ev.if_eq (tgt := 59) (q := 23) dX12_readSum_20 (by decide) rfl (fun h5 => ?_) (fun h5 => ?_)
    · skip
      refine rV dX12_readSum_59 rfl ?_
      rfl
    · skip
      omega
set_option maxRecDepth 4000 in
theorem p_X12_ends {Γ : Gm} {d : Nat} {m : Mem} (tx : Nat → Int) (N : Nat) (t : Tok) (f : Row) (hN : N ≤ 900) (hX : TX m tx N) (hO : tOK tx N t) (h : OKm m t f) (h0 : 0 ≤ f 0 ∧ f 0 ≤ 2000) : Ci Γ (d + 7) MX12_ends [rv 211] m (fun r m' => PM m' (enS tx N t f) ∧ Fr sPq m m') := by
  refine Ci.of moX12_ends rfl rfl (fun hA hM => ?_)
  show Em Γ (d + 7) MX12_ends _ 0 [rv 211] [] m
  refine Ev.aload_n (q := 1) dX12_ends_0 rfl rfl ?_
  refine Ev.bipush (q := 3) dX12_ends_1 kb_30 rfl ?_
  refine cV1i (q := 6) (d' := d + 6) dX12_ends_3 mlX12_137 moX12_eats mvX12_eats k211 rfl rfl rfl (Nat.le_refl _) rfl rfl rfl (p_X12_eats tx N t f 30 hN hX hO h) (fun r1 m1 e1 => ?_)
  obtain ⟨M9, rfl⟩ : ∃ M9, M9 = m1 := ⟨_, rfl⟩
  obtain ⟨ey, en⟩ := e1
  refine Ev.if_ne (tgt := 14) (q := 9) dX12_ends_6 (by decide) rfl (fun h2 => ?_) (fun h2 => ?_)
  · skip
    have hk : t.1 = 30 := Classical.byContradiction fun z => by have := (en z).1; omega
    obtain ⟨-, x9, f9⟩ := ey hk
    refine Ev.aload_n (q := 15) dX12_ends_14 rfl rfl ?_
    refine gR (q := 18) dX12_ends_15 gfX12_24 k211 r211_4 rfl rfl ?_
    refine Ev.iconst (q := 19) dX12_ends_18 ki_0 rfl ?_
    refine Ev.dup2 (q := 20) dX12_ends_19 (fun z => by cases z) (fun z => by cases z) rfl ?_
    refine aI (q := 21) (k := 0) dX12_ends_20 k215 (by rfl) (by decide) rfl ?_
    rw [x9.2.2]
    refine Ev.iconst (q := 22) dX12_ends_21 ki_1 rfl ?_
    refine Ev.iadd (q := 23) dX12_ends_22 rfl ?_
    refine sI (q := 24) (k := 0) dX12_ends_23 k215 (by rfl) (by decide) rfl ?_
    refine rV dX12_ends_24 rfl ?_
    rw [w32_of (by omega) (by omega)]
    have h9 := x9.up 0 (f 0 + 1)
    unfold enS eaS
    rw [if_pos hk]
    exact ⟨h9, f9.up rfl⟩
  · skip
    have hk : ¬ t.1 = 30 := fun z => by have := (ey z).1; omega
    obtain ⟨-, rfl⟩ := en hk
    refine Ev.aload_n (q := 10) dX12_ends_9 rfl rfl ?_
    refine Ev.iconst (q := 11) dX12_ends_10 ki_2 rfl ?_
    refine cV1v (q := 14) (d' := d + 6) dX12_ends_11 mlX12_114 moX12_fails mvX12_fails k211 rfl rfl rfl (Nat.le_refl _) rfl rfl rfl (p_X12_fails t f 2 (by decide) h) (fun r3 m3 e3 => ?_)
    obtain ⟨M8, rfl⟩ : ∃ M8, M8 = m3 := ⟨_, rfl⟩
    obtain ⟨b1, b2⟩ := e3
    refine Ev.aload_n (q := 15) dX12_ends_14 rfl rfl ?_
    refine gR (q := 18) dX12_ends_15 gfX12_24 k211 r211_4 rfl rfl ?_
    refine Ev.iconst (q := 19) dX12_ends_18 ki_0 rfl ?_
    refine Ev.dup2 (q := 20) dX12_ends_19 (fun z => by cases z) (fun z => by cases z) rfl ?_
    refine aI (q := 21) (k := 0) dX12_ends_20 k215 (by rfl) (by decide) rfl ?_
    refine Ev.iconst (q := 22) dX12_ends_21 ki_1 rfl ?_
    refine Ev.iadd (q := 23) dX12_ends_22 rfl ?_
    refine sI (q := 24) (k := 0) dX12_ends_23 k215 (by rfl) (by decide) rfl ?_
    refine rV dX12_ends_24 rfl ?_
    unfold enS eaS
    rw [if_neg hk]
    exact ⟨b1.up _ _, b2.up rfl⟩
set_option maxRecDepth 4000 in
theorem p_X12_ends_bd {Γ : Gm} {d : Nat} {m : Mem} (e : Int × Nat) (h : BDm m e) : Ci Γ (d + 2) MX12_ends [rv 211] m (fun r m' => BDm m' e ∧ Fr sPq m m') := by
  refine Ci.of moX12_ends rfl rfl (fun hA hM => ?_)
  show Em Γ (d + 2) MX12_ends _ 0 [rv 211] [] m
  refine Ev.aload_n (q := 1) dX12_ends_0 rfl rfl ?_
  refine Ev.bipush (q := 3) dX12_ends_1 kb_30 rfl ?_
  refine cV1i (q := 6) (d' := d + 1) dX12_ends_3 mlX12_137 moX12_eats mvX12_eats k211 rfl rfl rfl (Nat.le_refl _) rfl rfl rfl (p_X12_eats_bd e 30 h) (fun r1 m1 e1 => ?_)
  obtain ⟨rfl, e1⟩ := e1
  obtain rfl := e1.symm
  refine Ev.if_ne (tgt := 14) (q := 9) dX12_ends_6 (by decide) rfl (fun h2 => ?_) (fun h2 => ?_)
  · skip
    omega
  · skip
    refine Ev.aload_n (q := 10) dX12_ends_9 rfl rfl ?_
    refine Ev.iconst (q := 11) dX12_ends_10 ki_2 rfl ?_
    refine cV1v (q := 14) (d' := d + 1) dX12_ends_11 mlX12_114 moX12_fails mvX12_fails k211 rfl rfl rfl (Nat.le_refl _) rfl rfl rfl (p_X12_fails_bd e 2 h) (fun r3 m3 e3 => ?_)
    obtain rfl := (show _ = _ from e3).symm
    refine Ev.aload_n (q := 15) dX12_ends_14 rfl rfl ?_
    refine gR (q := 18) dX12_ends_15 gfX12_24 k211 r211_4 rfl rfl ?_
    refine Ev.iconst (q := 19) dX12_ends_18 ki_0 rfl ?_
    refine Ev.dup2 (q := 20) dX12_ends_19 (fun z => by cases z) (fun z => by cases z) rfl ?_
    refine aI (q := 21) (k := 0) dX12_ends_20 k215 (by rfl) (by decide) rfl ?_
    refine Ev.iconst (q := 22) dX12_ends_21 ki_1 rfl ?_
    refine Ev.iadd (q := 23) dX12_ends_22 rfl ?_
    refine sI (q := 24) (k := 0) dX12_ends_23 k215 (by rfl) (by decide) rfl ?_
    refine rV dX12_ends_24 rfl ?_
    exact ⟨h.up _ _, (Fr.rf _ _).up rfl⟩
set_option maxRecDepth 4000 in
theorem p_X12_readCalls {Γ : Gm} {d : Nat} {m : Mem} (tx : Nat → Int) (N : Nat) (t : Tok) (f : Row) (hN : N ≤ 900) (hX : TX m tx N) (hO : tOK tx N t) (h : OKm m t f) (hR : RI f) : Ci Γ (d + 7) MX12_readCalls [rv 211] m (fun r m' => PM m' (caS tx N t f) ∧ Fr sPq m m') := by
  refine Ci.of moX12_readCalls rfl rfl (fun hA hM => ?_)
  show Em Γ (d + 7) MX12_readCalls _ 0 [rv 211, uv, uv] [] m
  obtain ⟨hR1, hR2, hR3⟩ := hR
  refine Ev.aload_n (q := 1) dX12_readCalls_0 rfl rfl ?_
  refine cV0v (q := 4) (d' := d + 6) dX12_readCalls_1 mlX12_111 moX12_next mvX12_next k211 rfl rfl rfl (Nat.le_refl _) rfl rfl rfl (p_X12_next N t.2.2.1 hN hO.2.1 hX.1 h.2.1.2.2.1) (fun r1 m1 e1 => ?_)
  obtain ⟨M9, rfl⟩ : ∃ M9, M9 = m1 := ⟨_, rfl⟩
  obtain ⟨y1, y2⟩ := e1
  rw [hX.2] at y1
  have x9 := OKm_nx h (show TkM M9 (nxS tx N t) from y1) y2
  have f9 := y2.pq
  have hX9 := hX.q f9
  have hO9 := (tOK_nx hO).1
  refine Ev.aload_n (q := 5) dX12_readCalls_4 rfl rfl ?_
  refine Ev.iconst (q := 6) dX12_readCalls_5 ki_0 rfl ?_
  refine Ev.aload_n (q := 7) dX12_readCalls_6 rfl rfl ?_
  refine gR (q := 10) dX12_readCalls_7 gfX12_24 k211 r211_4 rfl rfl ?_
  refine Ev.iconst (q := 11) dX12_readCalls_10 ki_1 rfl ?_
  refine aI (q := 12) (k := 1) dX12_readCalls_11 k215 (by rfl) (by decide) rfl ?_
  rw [x9.2.2]
  refine Ev.iconst (q := 13) dX12_readCalls_12 ki_1 rfl ?_
  refine Ev.isub (q := 14) dX12_readCalls_13 rfl ?_
  rw [w32_of (by omega) (by omega)]
  refine cV2i (q := 17) (d' := d + 6) dX12_readCalls_14 mlX12_146 moX12_takes mvX12_takes k211 rfl rfl rfl (Nat.le_refl _) rfl rfl rfl (p_X12_takes tx N (nxS tx N t) f 0 (f 1 - 1) hN hX9 hO9 x9) (fun r2 m2 e2 => ?_)
  obtain ⟨M8, rfl⟩ : ∃ M8, M8 = m2 := ⟨_, rfl⟩
  obtain ⟨x8, f8⟩ := e2
  cases hx : nuS tx N 0 (f 1 - 1) (nxS tx N t) with
  | inl e =>
    rw [hx] at x8
    have x8 : BDm M8 e := x8
    refine istore_n_1 (q := 18) dX12_readCalls_17 rfl rfl rfl ?_
    refine Ev.aload_n (q := 19) dX12_readCalls_18 rfl rfl ?_
    refine Ev.bipush (q := 21) dX12_readCalls_19 kb_16 rfl ?_
    refine cV1i (q := 24) (d' := d + 6) dX12_readCalls_21 mlX12_137 moX12_eats mvX12_eats k211 rfl rfl rfl (Nat.le_refl _) rfl rfl rfl (p_X12_eats_bd _ 16 x8) (fun r61 m61 e61 => ?_)
    obtain ⟨rfl, e61⟩ := e61
    obtain rfl := e61.symm
    refine Ev.if_ne (tgt := 32) (q := 27) dX12_readCalls_24 (by decide) rfl (fun h62 => ?_) (fun h62 => ?_)
    · skip
      omega
    · skip
      refine Ev.aload_n (q := 28) dX12_readCalls_27 rfl rfl ?_
      refine Ev.iconst (q := 29) dX12_readCalls_28 ki_2 rfl ?_
      refine cV1v (q := 32) (d' := d + 6) dX12_readCalls_29 mlX12_114 moX12_fails mvX12_fails k211 rfl rfl rfl (Nat.le_refl _) rfl rfl rfl (p_X12_fails_bd _ 2 x8) (fun r63 m63 e63 => ?_)
      obtain rfl := (show _ = _ from e63).symm
      refine Ev.aload_n (q := 33) dX12_readCalls_32 rfl rfl ?_
      refine Ev.iconst (q := 34) dX12_readCalls_33 ki_0 rfl ?_
      refine Ev.bipush (q := 36) dX12_readCalls_34 kb_99 rfl ?_
      refine cV2i (q := 39) (d' := d + 6) dX12_readCalls_36 mlX12_146 moX12_takes mvX12_takes k211 rfl rfl rfl (Nat.le_refl _) rfl rfl rfl (p_X12_takes_bd _ _ _ x8) (fun r64 m64 e64 => ?_)
      obtain rfl := (show _ = _ from e64).symm
      refine istore_n_2 (q := 40) dX12_readCalls_39 rfl rfl rfl ?_
      refine Ev.aload_n (q := 41) dX12_readCalls_40 rfl rfl ?_
      refine gI (q := 44) dX12_readCalls_41 gfX12_102 k211 rfl rfl ?_
      rw [x8.1]
      refine Ev.if_ne (tgt := 57) (q := 47) dX12_readCalls_44 (by decide) rfl (fun h65 => ?_) (fun h65 => ?_)
      · skip
        refine rV dX12_readCalls_57 rfl ?_
        unfold caS
        rw [bE_l hx]
        exact ⟨x8, f9.tr f8⟩
      · skip
        exact absurd (by assumption) x8.2.1
  | inr a =>
    rw [hx] at x8
    obtain ⟨xr, x8⟩ : _ = a.1 ∧ OKm M8 a.2 f := x8
    obtain ⟨n1, n2, n3, n4, n5⟩ := nu_inv hO9 hx
    rw [xr]
    refine istore_n_1 (q := 18) dX12_readCalls_17 rfl rfl rfl ?_
    refine Ev.aload_n (q := 19) dX12_readCalls_18 rfl rfl ?_
    refine Ev.bipush (q := 21) dX12_readCalls_19 kb_16 rfl ?_
    refine cV1i (q := 24) (d' := d + 6) dX12_readCalls_21 mlX12_137 moX12_eats mvX12_eats k211 rfl rfl rfl (Nat.le_refl _) rfl rfl rfl (p_X12_eats tx N a.2 f 16 hN (hX9.q f8) n4 x8) (fun r61 m61 e61 => ?_)
    obtain ⟨M7, rfl⟩ : ∃ M7, M7 = m61 := ⟨_, rfl⟩
    obtain ⟨ey, en⟩ := e61
    refine Ev.if_ne (tgt := 32) (q := 27) dX12_readCalls_24 (by decide) rfl (fun h62 => ?_) (fun h62 => ?_)
    · skip
      have hk : a.2.1 = 16 := Classical.byContradiction fun z => by have := (en z).1; omega
      obtain ⟨-, x7, f7⟩ := ey hk
      have hX7 := (hX9.q f8).q f7
      have hO7 := (tOK_nx n4).1
      have hea : eaS tx N 16 a.2 = .inr (nxS tx N a.2) := by unfold eaS; rw [if_pos hk]
      refine Ev.aload_n (q := 33) dX12_readCalls_32 rfl rfl ?_
      refine Ev.iconst (q := 34) dX12_readCalls_33 ki_0 rfl ?_
      refine Ev.bipush (q := 36) dX12_readCalls_34 kb_99 rfl ?_
      refine cV2i (q := 39) (d' := d + 6) dX12_readCalls_36 mlX12_146 moX12_takes mvX12_takes k211 rfl rfl rfl (Nat.le_refl _) rfl rfl rfl (p_X12_takes tx N (nxS tx N a.2) f 0 99 hN hX7 hO7 x7) (fun r71 m71 e71 => ?_)
      obtain ⟨M6, rfl⟩ : ∃ M6, M6 = m71 := ⟨_, rfl⟩
      obtain ⟨x6, f6⟩ := e71
      cases hy : nuS tx N 0 99 (nxS tx N a.2) with
      | inl e =>
        rw [hy] at x6
        have x6 : BDm M6 e := x6
        refine istore_n_2 (q := 40) dX12_readCalls_39 rfl rfl rfl ?_
        refine Ev.aload_n (q := 41) dX12_readCalls_40 rfl rfl ?_
        refine gI (q := 44) dX12_readCalls_41 gfX12_102 k211 rfl rfl ?_
        rw [x6.1]
        refine Ev.if_ne (tgt := 57) (q := 47) dX12_readCalls_44 (by decide) rfl (fun h61 => ?_) (fun h61 => ?_)
        · skip
          refine rV dX12_readCalls_57 rfl ?_
          unfold caS
          rw [bE_r hx, bE_r hea, bE_l hy]
          exact ⟨x6, f9.tr (f8.tr (f7.tr f6))⟩
        · skip
          exact absurd (by assumption) x6.2.1
      | inr b =>
        rw [hy] at x6
        obtain ⟨xs, x6⟩ : _ = b.1 ∧ OKm M6 b.2 f := x6
        rw [xs, show a.1 = ((a.1.toNat : Nat) : Int) by omega]
        refine istore_n_2 (q := 40) dX12_readCalls_39 rfl rfl rfl ?_
        refine Ev.aload_n (q := 41) dX12_readCalls_40 rfl rfl ?_
        refine gI (q := 44) dX12_readCalls_41 gfX12_102 k211 rfl rfl ?_
        rw [x6.1]
        refine Ev.if_ne (tgt := 57) (q := 47) dX12_readCalls_44 (by decide) rfl (fun h81 => ?_) (fun h81 => ?_)
        · skip
          omega
        · skip
          refine Ev.aload_n (q := 48) dX12_readCalls_47 rfl rfl ?_
          refine gR (q := 51) dX12_readCalls_48 gfX12_24 k211 r211_4 rfl rfl ?_
          refine Ev.bipush (q := 53) dX12_readCalls_51 kb_10 rfl ?_
          refine Ev.iload_n (q := 54) dX12_readCalls_53 rfl rfl ?_
          refine Ev.iadd (q := 55) dX12_readCalls_54 rfl ?_
          refine Ev.iload_n (q := 56) dX12_readCalls_55 rfl rfl ?_
          refine sI (q := 57) (k := 10 + a.1.toNat) dX12_readCalls_56 k215 (by first | rfl | omega | (simp (disch := omega) only [w32_of]; omega)) (by omega) rfl ?_
          refine rV dX12_readCalls_57 rfl ?_
          unfold caS
          rw [bE_r hx, bE_r hea, bE_r hy]
          exact ⟨x6.up _ _, (f9.tr (f8.tr (f7.tr f6))).up rfl⟩
    · skip
      have hk : ¬ a.2.1 = 16 := fun z => by have := (ey z).1; omega
      obtain ⟨-, rfl⟩ := en hk
      have hea : eaS tx N 16 a.2 = flS a.2 2 := by unfold eaS; rw [if_neg hk]
      refine Ev.aload_n (q := 28) dX12_readCalls_27 rfl rfl ?_
      refine Ev.iconst (q := 29) dX12_readCalls_28 ki_2 rfl ?_
      refine cV1v (q := 32) (d' := d + 6) dX12_readCalls_29 mlX12_114 moX12_fails mvX12_fails k211 rfl rfl rfl (Nat.le_refl _) rfl rfl rfl (p_X12_fails a.2 f 2 (by decide) x8) (fun r63 m63 e63 => ?_)
      obtain ⟨M6, rfl⟩ : ∃ M6, M6 = m63 := ⟨_, rfl⟩
      obtain ⟨b1, b2⟩ := e63
      refine Ev.aload_n (q := 33) dX12_readCalls_32 rfl rfl ?_
      refine Ev.iconst (q := 34) dX12_readCalls_33 ki_0 rfl ?_
      refine Ev.bipush (q := 36) dX12_readCalls_34 kb_99 rfl ?_
      refine cV2i (q := 39) (d' := d + 6) dX12_readCalls_36 mlX12_146 moX12_takes mvX12_takes k211 rfl rfl rfl (Nat.le_refl _) rfl rfl rfl (p_X12_takes_bd _ _ _ b1) (fun r61 m61 e61 => ?_)
      obtain rfl := (show _ = _ from e61).symm
      refine istore_n_2 (q := 40) dX12_readCalls_39 rfl rfl rfl ?_
      refine Ev.aload_n (q := 41) dX12_readCalls_40 rfl rfl ?_
      refine gI (q := 44) dX12_readCalls_41 gfX12_102 k211 rfl rfl ?_
      rw [b1.1]
      refine Ev.if_ne (tgt := 57) (q := 47) dX12_readCalls_44 (by decide) rfl (fun h62 => ?_) (fun h62 => ?_)
      · skip
        refine rV dX12_readCalls_57 rfl ?_
        unfold caS
        rw [bE_r hx, bE_l (hea.trans rfl)]
        exact ⟨b1, f9.tr (f8.tr b2)⟩
      · skip
        exact absurd (by assumption) b1.2.1
theorem sPs_q {m m' : Mem} (h : Fr sPq m m') : Fr sPs m m' := h.mono (fun a k q => sPq_s q)
theorem BD_15 {m : Mem} {e : Int × Nat} (h : BDm m e) (x : Int) : BDm (up m 211 15 x) e := ⟨by rw [up_k _ _ (by decide)]; exact h.1, h.2.1, by rw [up_k _ _ (by decide)]; exact h.2.2⟩
theorem OK_15 {m : Mem} {t : Tok} {f : Row} (h : OKm m t f) (x : Int) : OKm (up m 211 15 x) t f := ⟨by rw [up_k _ _ (by decide)]; exact h.1, h.2.1.keep (by rw [up_k _ _ (by decide)]) (by rw [up_k _ _ (by decide)]) (by rw [up_k _ _ (by decide)]) (by rw [up_k _ _ (by decide)]), by rw [up_na _ _ (by decide)]; exact h.2.2⟩
theorem TX_15 {m : Mem} {tx : Nat → Int} {N : Nat} (h : TX m tx N) (x : Int) : TX (up m 211 15 x) tx N := ⟨by rw [up_k _ _ (by decide)]; exact h.1, by rw [up_na _ _ (by decide)]; exact h.2⟩
set_option maxRecDepth 4000 in
theorem p_X12_readLaw {Γ : Gm} {d : Nat} {m : Mem} (tx : Nat → Int) (N : Nat) (t : Tok) (f : Row) (law : Nat) (hN : N ≤ 900) (hX : TX m tx N) (hO : tOK tx N t) (h : OKm m t f) (h457 : 0 ≤ f 457 ∧ f 457 ≤ t.2.1) (hlaw : law < 2) (h24 : ¬ t.1 = 24) : Ci Γ (d + 28) MX12_readLaw [rv 211, iv law] m (fun r m' => PM m' (lwS tx N law t f) ∧ Fr sPs m m') := by
  refine Ci.of moX12_readLaw rfl rfl (fun hA hM => ?_)
  show Em Γ (d + 28) MX12_readLaw _ 0 [rv 211, iv law, uv] [] m
  have hx1 := nx_lt hO h24
  have hle := tO_le (tOK_nx hO).1
  refine Ev.aload_n (q := 1) dX12_readLaw_0 rfl rfl ?_
  refine cV0v (q := 4) (d' := d + 27) dX12_readLaw_1 mlX12_111 moX12_next mvX12_next k211 rfl rfl rfl (Nat.le_refl _) rfl rfl rfl (p_X12_next N t.2.2.1 hN hO.2.1 hX.1 h.2.1.2.2.1) (fun r1 m1 e1 => ?_)
  obtain ⟨M9, rfl⟩ : ∃ M9, M9 = m1 := ⟨_, rfl⟩
  obtain ⟨y1, y2⟩ := e1
  rw [hX.2] at y1
  have x9 := OKm_nx h (show TkM M9 (nxS tx N t) from y1) y2
  have f9 := y2.pq
  have hX9 := hX.q f9
  have hO9 := (tOK_nx hO).1
  refine Ev.aload_n (q := 5) dX12_readLaw_4 rfl rfl ?_
  refine Ev.bipush (q := 7) dX12_readLaw_5 kb_31 rfl ?_
  refine cV1i (q := 10) (d' := d + 27) dX12_readLaw_7 mlX12_137 moX12_eats mvX12_eats k211 rfl rfl rfl (Nat.le_refl _) rfl rfl rfl (p_X12_eats tx N (nxS tx N t) f 31 hN hX9 hO9 x9) (fun r2 m2 e2 => ?_)
  obtain ⟨M7, rfl⟩ : ∃ M7, M7 = m2 := ⟨_, rfl⟩
  obtain ⟨ey, en⟩ := e2
  refine Ev.if_ne (tgt := 18) (q := 13) dX12_readLaw_10 (by decide) rfl (fun h3 => ?_) (fun h3 => ?_)
  · skip
    have hk : (nxS tx N t).1 = 31 := Classical.byContradiction fun z => by have := (en z).1; omega
    obtain ⟨-, x7, f7⟩ := ey hk
    have hX7 := hX9.q f7
    have hO7 := (tOK_nx hO9).1
    have hx2 := nx_lt hO9 (show ¬ (nxS tx N t).1 = 24 by omega)
    have hle7 := tO_le hO7
    have hea : eaS tx N 31 (nxS tx N t) = .inr (nxS tx N (nxS tx N t)) := by unfold eaS; rw [if_pos hk]
    refine Ev.aload_n (q := 19) dX12_readLaw_18 rfl rfl ?_
    refine gR (q := 22) dX12_readLaw_19 gfX12_24 k211 r211_4 rfl rfl ?_
    refine Ev.sipush (q := 25) dX12_readLaw_22 kh_457 rfl ?_
    refine aI (q := 26) (k := 457) dX12_readLaw_25 k215 (by rfl) (by decide) rfl ?_
    rw [x7.2.2]
    refine istore_n_2 (q := 27) dX12_readLaw_26 rfl rfl rfl ?_
    refine Ev.aload_n (q := 28) dX12_readLaw_27 rfl rfl ?_
    refine Ev.iload_n (q := 29) dX12_readLaw_28 rfl rfl ?_
    refine pI (q := 32) dX12_readLaw_29 gfX12_122 k211 rfl rfl ?_
    refine Ev.aload_n (q := 33) dX12_readLaw_32 rfl rfl ?_
    refine Ev.iconst (q := 34) dX12_readLaw_33 ki_0 rfl ?_
    refine cV1v (q := 37) (d' := d + 27) dX12_readLaw_34 mlX12_134 moX12_readSum mvX12_readSum k211 rfl rfl rfl (Nat.le_refl _) rfl rfl rfl ((law_all hN hlaw (6 * N + 12)).2.2.1 (d + 27) 0 (nxS tx N (nxS tx N t)) f _ (by omega) (by omega) ⟨TX_15 hX7 _, hO7, OK_15 x7 _, up_eq _ _ _ _, h457.1, by omega⟩ (by omega)) (fun r61 m61 e61 => ?_)
    obtain ⟨M8, rfl⟩ : ∃ M8, M8 = m61 := ⟨_, rfl⟩
    obtain ⟨x8, f8⟩ := e61
    have F7 : Fr sPs m (up M7 211 15 (law : Int)) := (sPs_q (f9.tr f7)).up rfl
    cases hx : psR tx N law (6 * N + 12) 0 0 (nxS tx N (nxS tx N t)) with
    | inl e =>
      rw [hx] at x8
      have x8 : BDm M8 e := x8
      refine Ev.aload_n (q := 38) dX12_readLaw_37 rfl rfl ?_
      refine gI (q := 41) dX12_readLaw_38 gfX12_102 k211 rfl rfl ?_
      rw [x8.1]
      refine Ev.if_eq (tgt := 45) (q := 44) dX12_readLaw_41 (by decide) rfl (fun h81 => ?_) (fun h81 => ?_)
      · skip
        exact absurd (by assumption) x8.2.1
      · skip
        refine rV dX12_readLaw_44 rfl ?_
        unfold lwS
        rw [bE_r hea, bE_l hx]
        exact ⟨x8, F7.tr (sPs_q f8)⟩
    | inr a =>
      rw [hx] at x8
      have x8 : OKm M8 a.2 (apC f a.1) := x8
      obtain ⟨q1, q2, q3⟩ := ps_len (6 * N + 12) 0 0 _ a.1 a.2 (by omega) hO7 (by simp only [if_true]; omega) hx
      have hle2 := tO_le q1
      refine Ev.aload_n (q := 38) dX12_readLaw_37 rfl rfl ?_
      refine gI (q := 41) dX12_readLaw_38 gfX12_102 k211 rfl rfl ?_
      rw [x8.1]
      refine Ev.if_eq (tgt := 45) (q := 44) dX12_readLaw_41 (by decide) rfl (fun h81 => ?_) (fun h81 => ?_)
      · skip
        refine Ev.aload_n (q := 46) dX12_readLaw_45 rfl rfl ?_
        refine gR (q := 49) dX12_readLaw_46 gfX12_24 k211 r211_4 rfl rfl ?_
        refine Ev.iconst (q := 50) dX12_readLaw_49 ki_4 rfl ?_
        refine Ev.iload_n (q := 51) dX12_readLaw_50 rfl rfl ?_
        refine Ev.iadd (q := 52) dX12_readLaw_51 rfl ?_
        refine Ev.iconst (q := 53) dX12_readLaw_52 ki_1 rfl ?_
        refine sI (q := 54) (k := 4 + law) dX12_readLaw_53 k215 (by first | rfl | omega | (simp (disch := omega) only [w32_of]; omega)) (by omega) rfl ?_
        refine Ev.aload_n (q := 55) dX12_readLaw_54 rfl rfl ?_
        refine gR (q := 58) dX12_readLaw_55 gfX12_24 k211 r211_4 rfl rfl ?_
        refine Ev.bipush (q := 60) dX12_readLaw_58 kb_6 rfl ?_
        refine Ev.iload_n (q := 61) dX12_readLaw_60 rfl rfl ?_
        refine Ev.iadd (q := 62) dX12_readLaw_61 rfl ?_
        refine Ev.iload_n (q := 63) dX12_readLaw_62 rfl rfl ?_
        refine sI (q := 64) (k := 6 + law) dX12_readLaw_63 k215 (by first | rfl | omega | (simp (disch := omega) only [w32_of]; omega)) (by omega) rfl ?_
        refine Ev.aload_n (q := 65) dX12_readLaw_64 rfl rfl ?_
        refine gR (q := 68) dX12_readLaw_65 gfX12_24 k211 r211_4 rfl rfl ?_
        refine Ev.bipush (q := 70) dX12_readLaw_68 kb_8 rfl ?_
        refine Ev.iload_n (q := 71) dX12_readLaw_70 rfl rfl ?_
        refine Ev.iadd (q := 72) dX12_readLaw_71 rfl ?_
        refine Ev.aload_n (q := 73) dX12_readLaw_72 rfl rfl ?_
        refine gR (q := 76) dX12_readLaw_73 gfX12_24 k211 r211_4 rfl rfl ?_
        refine Ev.sipush (q := 79) dX12_readLaw_76 kh_457 rfl ?_
        refine aI (q := 80) (k := 457) dX12_readLaw_79 k215 (by rfl) (by decide) rfl ?_
        rw [((x8.up _ _).up _ _).2.2, upg_ne _ _ (by omega), upg_ne _ _ (by omega)]
        refine Ev.iload_n (q := 81) dX12_readLaw_80 rfl rfl ?_
        refine Ev.isub (q := 82) dX12_readLaw_81 rfl ?_
        refine sI (q := 83) (k := 8 + law) dX12_readLaw_82 k215 (by first | rfl | omega | (simp (disch := omega) only [w32_of]; omega)) (by omega) rfl ?_
        refine rV dX12_readLaw_83 rfl ?_
        have hc9 := apC_457 (f := f) a.1
        rw [w32_of (by omega) (by omega)]
        unfold lwS
        rw [bE_r hea, bE_r hx]
        exact ⟨((x8.up _ _).up _ _).up _ _, (((F7.tr (sPs_q f8)).up rfl).up rfl).up rfl⟩
      · skip
        omega
  · skip
    have hk : ¬ (nxS tx N t).1 = 31 := fun z => by have := (ey z).1; omega
    obtain ⟨-, rfl⟩ := en hk
    have hea : eaS tx N 31 (nxS tx N t) = flS (nxS tx N t) 2 := by unfold eaS; rw [if_neg hk]
    refine Ev.aload_n (q := 14) dX12_readLaw_13 rfl rfl ?_
    refine Ev.iconst (q := 15) dX12_readLaw_14 ki_2 rfl ?_
    refine cV1v (q := 18) (d' := d + 27) dX12_readLaw_15 mlX12_114 moX12_fails mvX12_fails k211 rfl rfl rfl (Nat.le_refl _) rfl rfl rfl (p_X12_fails (nxS tx N t) f 2 (by decide) x9) (fun r4 m4 e4 => ?_)
    obtain ⟨M6, rfl⟩ : ∃ M6, M6 = m4 := ⟨_, rfl⟩
    obtain ⟨b1, b2⟩ := e4
    refine Ev.aload_n (q := 19) dX12_readLaw_18 rfl rfl ?_
    refine gR (q := 22) dX12_readLaw_19 gfX12_24 k211 r211_4 rfl rfl ?_
    refine Ev.sipush (q := 25) dX12_readLaw_22 kh_457 rfl ?_
    refine aI (q := 26) (k := 457) dX12_readLaw_25 k215 (by rfl) (by decide) rfl ?_
    refine istore_n_2 (q := 27) dX12_readLaw_26 rfl rfl rfl ?_
    refine Ev.aload_n (q := 28) dX12_readLaw_27 rfl rfl ?_
    refine Ev.iload_n (q := 29) dX12_readLaw_28 rfl rfl ?_
    refine pI (q := 32) dX12_readLaw_29 gfX12_122 k211 rfl rfl ?_
    refine Ev.aload_n (q := 33) dX12_readLaw_32 rfl rfl ?_
    refine Ev.iconst (q := 34) dX12_readLaw_33 ki_0 rfl ?_
    refine cV1v (q := 37) (d' := d + 27) dX12_readLaw_34 mlX12_134 moX12_readSum mvX12_readSum k211 rfl rfl rfl (Nat.le_refl _) rfl rfl rfl (p_X12_readSum_bd _ 0 (BD_15 b1 _)) (fun r61 m61 e61 => ?_)
    obtain rfl := (show _ = _ from e61).symm
    refine Ev.aload_n (q := 38) dX12_readLaw_37 rfl rfl ?_
    refine gI (q := 41) dX12_readLaw_38 gfX12_102 k211 rfl rfl ?_
    rw [(BD_15 b1 _).1]
    refine Ev.if_eq (tgt := 45) (q := 44) dX12_readLaw_41 (by decide) rfl (fun h62 => ?_) (fun h62 => ?_)
    · skip
      exact absurd (by assumption) b1.2.1
    · skip
      refine rV dX12_readLaw_44 rfl ?_
      unfold lwS
      rw [bE_l (hea.trans rfl)]
      exact ⟨BD_15 b1 _, (sPs_q (f9.tr b2)).up rfl⟩
set_option maxRecDepth 4000 in
theorem p_X12_readLine {Γ : Gm} {d : Nat} {m : Mem} (tx : Nat → Int) (N : Nat) (t : Tok) (f : Row) (hN : N ≤ 900) (hX : TX m tx N) (hO : tOK tx N t) (h : OKm m t f) (hR : RI f) (h457 : 0 ≤ f 457 ∧ f 457 ≤ t.2.1) : Ci Γ (d + 29) MX12_readLine [rv 211] m (fun r m' => PM m' (lnS tx N t f) ∧ Fr sPs m m') := by
  refine Ci.of moX12_readLine rfl rfl (fun hA hM => ?_)
  show Em Γ (d + 29) MX12_readLine _ 0 [rv 211] [] m
  refine Ev.aload_n (q := 1) dX12_readLine_0 rfl rfl ?_
  refine gI (q := 4) dX12_readLine_1 gfX12_102 k211 rfl rfl ?_
  rw [h.1]
  refine Ev.if_eq (tgt := 8) (q := 7) dX12_readLine_4 (by decide) rfl (fun h1 => ?_) (fun h1 => ?_)
  · skip
    refine Ev.aload_n (q := 9) dX12_readLine_8 rfl rfl ?_
    refine gI (q := 12) dX12_readLine_9 gfX12_84 k211 rfl rfl ?_
    rw [h.2.1.1]
    obtain ⟨k0, hk0⟩ : ∃ k0, k0 = t.1 := ⟨_, rfl⟩
    rw [← hk0]
    by_cases w1 : k0 = 1
    · subst w1
      refine Ev.tabIn (q := 88) dX12_readLine_12 (by decide) (by decide) rfl rfl ?_
      refine Ev.aload_n (q := 89) dX12_readLine_88 rfl rfl ?_
      refine cV0v (q := 92) (d' := d + 28) dX12_readLine_89 mlX12_159 moX12_readLift mvX12_readLift k211 rfl rfl rfl (Nat.le_refl _) rfl rfl rfl (p_X12_readLift tx N t f hN hX hO h hR) (fun r2 m2 e2 => ?_)
      obtain ⟨x8, f8⟩ := e2
      refine Ev.goto (q := 128) dX12_readLine_92 (by decide) ?_
      refine rV dX12_readLine_128 rfl ?_
      unfold lnS
      rw [if_pos hk0.symm]
      exact ⟨x8, sPs_q f8⟩
    by_cases w2 : k0 = 2
    · subst w2
      refine Ev.tabIn (q := 123) dX12_readLine_12 (by decide) (by decide) rfl rfl ?_
      refine Ev.aload_n (q := 124) dX12_readLine_123 rfl rfl ?_
      refine Ev.iconst (q := 125) dX12_readLine_124 ki_2 rfl ?_
      refine cV1v (q := 128) (d' := d + 28) dX12_readLine_125 mlX12_114 moX12_fails mvX12_fails k211 rfl rfl rfl (Nat.le_refl _) rfl rfl rfl (p_X12_fails t f 2 (by decide) h) (fun r3 m3 e3 => ?_)
      obtain ⟨x8, f8⟩ := e3
      refine rV dX12_readLine_128 rfl ?_
      unfold lnS
      rw [if_neg (show ¬ t.1 = 1 by omega), if_neg (show ¬ t.1 = 7 by omega), if_neg (show ¬ t.1 = 13 by omega), if_neg (show ¬ t.1 = 14 by omega), if_neg (show ¬ t.1 = 15 by omega)]
      exact ⟨x8, sPs_q f8⟩
    by_cases w3 : k0 = 3
    · subst w3
      refine Ev.tabIn (q := 123) dX12_readLine_12 (by decide) (by decide) rfl rfl ?_
      refine Ev.aload_n (q := 124) dX12_readLine_123 rfl rfl ?_
      refine Ev.iconst (q := 125) dX12_readLine_124 ki_2 rfl ?_
      refine cV1v (q := 128) (d' := d + 28) dX12_readLine_125 mlX12_114 moX12_fails mvX12_fails k211 rfl rfl rfl (Nat.le_refl _) rfl rfl rfl (p_X12_fails t f 2 (by decide) h) (fun r4 m4 e4 => ?_)
      obtain ⟨x8, f8⟩ := e4
      refine rV dX12_readLine_128 rfl ?_
      unfold lnS
      rw [if_neg (show ¬ t.1 = 1 by omega), if_neg (show ¬ t.1 = 7 by omega), if_neg (show ¬ t.1 = 13 by omega), if_neg (show ¬ t.1 = 14 by omega), if_neg (show ¬ t.1 = 15 by omega)]
      exact ⟨x8, sPs_q f8⟩
    by_cases w4 : k0 = 4
    · subst w4
      refine Ev.tabIn (q := 123) dX12_readLine_12 (by decide) (by decide) rfl rfl ?_
      refine Ev.aload_n (q := 124) dX12_readLine_123 rfl rfl ?_
      refine Ev.iconst (q := 125) dX12_readLine_124 ki_2 rfl ?_
      refine cV1v (q := 128) (d' := d + 28) dX12_readLine_125 mlX12_114 moX12_fails mvX12_fails k211 rfl rfl rfl (Nat.le_refl _) rfl rfl rfl (p_X12_fails t f 2 (by decide) h) (fun r5 m5 e5 => ?_)
      obtain ⟨x8, f8⟩ := e5
      refine rV dX12_readLine_128 rfl ?_
      unfold lnS
      rw [if_neg (show ¬ t.1 = 1 by omega), if_neg (show ¬ t.1 = 7 by omega), if_neg (show ¬ t.1 = 13 by omega), if_neg (show ¬ t.1 = 14 by omega), if_neg (show ¬ t.1 = 15 by omega)]
      exact ⟨x8, sPs_q f8⟩
    by_cases w5 : k0 = 5
    · subst w5
      refine Ev.tabIn (q := 123) dX12_readLine_12 (by decide) (by decide) rfl rfl ?_
      refine Ev.aload_n (q := 124) dX12_readLine_123 rfl rfl ?_
      refine Ev.iconst (q := 125) dX12_readLine_124 ki_2 rfl ?_
      refine cV1v (q := 128) (d' := d + 28) dX12_readLine_125 mlX12_114 moX12_fails mvX12_fails k211 rfl rfl rfl (Nat.le_refl _) rfl rfl rfl (p_X12_fails t f 2 (by decide) h) (fun r6 m6 e6 => ?_)
      obtain ⟨x8, f8⟩ := e6
      refine rV dX12_readLine_128 rfl ?_
      unfold lnS
      rw [if_neg (show ¬ t.1 = 1 by omega), if_neg (show ¬ t.1 = 7 by omega), if_neg (show ¬ t.1 = 13 by omega), if_neg (show ¬ t.1 = 14 by omega), if_neg (show ¬ t.1 = 15 by omega)]
      exact ⟨x8, sPs_q f8⟩
    by_cases w6 : k0 = 6
    · subst w6
      refine Ev.tabIn (q := 123) dX12_readLine_12 (by decide) (by decide) rfl rfl ?_
      refine Ev.aload_n (q := 124) dX12_readLine_123 rfl rfl ?_
      refine Ev.iconst (q := 125) dX12_readLine_124 ki_2 rfl ?_
      refine cV1v (q := 128) (d' := d + 28) dX12_readLine_125 mlX12_114 moX12_fails mvX12_fails k211 rfl rfl rfl (Nat.le_refl _) rfl rfl rfl (p_X12_fails t f 2 (by decide) h) (fun r7 m7 e7 => ?_)
      obtain ⟨x8, f8⟩ := e7
      refine rV dX12_readLine_128 rfl ?_
      unfold lnS
      rw [if_neg (show ¬ t.1 = 1 by omega), if_neg (show ¬ t.1 = 7 by omega), if_neg (show ¬ t.1 = 13 by omega), if_neg (show ¬ t.1 = 14 by omega), if_neg (show ¬ t.1 = 15 by omega)]
      exact ⟨x8, sPs_q f8⟩
    by_cases w7 : k0 = 7
    · subst w7
      refine Ev.tabIn (q := 95) dX12_readLine_12 (by decide) (by decide) rfl rfl ?_
      refine Ev.aload_n (q := 96) dX12_readLine_95 rfl rfl ?_
      refine cV0v (q := 99) (d' := d + 28) dX12_readLine_96 mlX12_162 moX12_readPerson mvX12_readPerson k211 rfl rfl rfl (Nat.le_refl _) rfl rfl rfl (p_X12_readPerson tx N t f hN hX hO h hR) (fun r8 m8 e8 => ?_)
      obtain ⟨x8, f8⟩ := e8
      refine Ev.goto (q := 128) dX12_readLine_99 (by decide) ?_
      refine rV dX12_readLine_128 rfl ?_
      unfold lnS
      rw [if_neg (show ¬ t.1 = 1 by omega), if_pos hk0.symm]
      exact ⟨x8, sPs_q f8⟩
    by_cases w8 : k0 = 8
    · subst w8
      refine Ev.tabIn (q := 123) dX12_readLine_12 (by decide) (by decide) rfl rfl ?_
      refine Ev.aload_n (q := 124) dX12_readLine_123 rfl rfl ?_
      refine Ev.iconst (q := 125) dX12_readLine_124 ki_2 rfl ?_
      refine cV1v (q := 128) (d' := d + 28) dX12_readLine_125 mlX12_114 moX12_fails mvX12_fails k211 rfl rfl rfl (Nat.le_refl _) rfl rfl rfl (p_X12_fails t f 2 (by decide) h) (fun r9 m9 e9 => ?_)
      obtain ⟨x8, f8⟩ := e9
      refine rV dX12_readLine_128 rfl ?_
      unfold lnS
      rw [if_neg (show ¬ t.1 = 1 by omega), if_neg (show ¬ t.1 = 7 by omega), if_neg (show ¬ t.1 = 13 by omega), if_neg (show ¬ t.1 = 14 by omega), if_neg (show ¬ t.1 = 15 by omega)]
      exact ⟨x8, sPs_q f8⟩
    by_cases w9 : k0 = 9
    · subst w9
      refine Ev.tabIn (q := 123) dX12_readLine_12 (by decide) (by decide) rfl rfl ?_
      refine Ev.aload_n (q := 124) dX12_readLine_123 rfl rfl ?_
      refine Ev.iconst (q := 125) dX12_readLine_124 ki_2 rfl ?_
      refine cV1v (q := 128) (d' := d + 28) dX12_readLine_125 mlX12_114 moX12_fails mvX12_fails k211 rfl rfl rfl (Nat.le_refl _) rfl rfl rfl (p_X12_fails t f 2 (by decide) h) (fun r10 m10 e10 => ?_)
      obtain ⟨x8, f8⟩ := e10
      refine rV dX12_readLine_128 rfl ?_
      unfold lnS
      rw [if_neg (show ¬ t.1 = 1 by omega), if_neg (show ¬ t.1 = 7 by omega), if_neg (show ¬ t.1 = 13 by omega), if_neg (show ¬ t.1 = 14 by omega), if_neg (show ¬ t.1 = 15 by omega)]
      exact ⟨x8, sPs_q f8⟩
    by_cases w10 : k0 = 10
    · subst w10
      refine Ev.tabIn (q := 123) dX12_readLine_12 (by decide) (by decide) rfl rfl ?_
      refine Ev.aload_n (q := 124) dX12_readLine_123 rfl rfl ?_
      refine Ev.iconst (q := 125) dX12_readLine_124 ki_2 rfl ?_
      refine cV1v (q := 128) (d' := d + 28) dX12_readLine_125 mlX12_114 moX12_fails mvX12_fails k211 rfl rfl rfl (Nat.le_refl _) rfl rfl rfl (p_X12_fails t f 2 (by decide) h) (fun r11 m11 e11 => ?_)
      obtain ⟨x8, f8⟩ := e11
      refine rV dX12_readLine_128 rfl ?_
      unfold lnS
      rw [if_neg (show ¬ t.1 = 1 by omega), if_neg (show ¬ t.1 = 7 by omega), if_neg (show ¬ t.1 = 13 by omega), if_neg (show ¬ t.1 = 14 by omega), if_neg (show ¬ t.1 = 15 by omega)]
      exact ⟨x8, sPs_q f8⟩
    by_cases w11 : k0 = 11
    · subst w11
      refine Ev.tabIn (q := 123) dX12_readLine_12 (by decide) (by decide) rfl rfl ?_
      refine Ev.aload_n (q := 124) dX12_readLine_123 rfl rfl ?_
      refine Ev.iconst (q := 125) dX12_readLine_124 ki_2 rfl ?_
      refine cV1v (q := 128) (d' := d + 28) dX12_readLine_125 mlX12_114 moX12_fails mvX12_fails k211 rfl rfl rfl (Nat.le_refl _) rfl rfl rfl (p_X12_fails t f 2 (by decide) h) (fun r12 m12 e12 => ?_)
      obtain ⟨x8, f8⟩ := e12
      refine rV dX12_readLine_128 rfl ?_
      unfold lnS
      rw [if_neg (show ¬ t.1 = 1 by omega), if_neg (show ¬ t.1 = 7 by omega), if_neg (show ¬ t.1 = 13 by omega), if_neg (show ¬ t.1 = 14 by omega), if_neg (show ¬ t.1 = 15 by omega)]
      exact ⟨x8, sPs_q f8⟩
    by_cases w12 : k0 = 12
    · subst w12
      refine Ev.tabIn (q := 123) dX12_readLine_12 (by decide) (by decide) rfl rfl ?_
      refine Ev.aload_n (q := 124) dX12_readLine_123 rfl rfl ?_
      refine Ev.iconst (q := 125) dX12_readLine_124 ki_2 rfl ?_
      refine cV1v (q := 128) (d' := d + 28) dX12_readLine_125 mlX12_114 moX12_fails mvX12_fails k211 rfl rfl rfl (Nat.le_refl _) rfl rfl rfl (p_X12_fails t f 2 (by decide) h) (fun r13 m13 e13 => ?_)
      obtain ⟨x8, f8⟩ := e13
      refine rV dX12_readLine_128 rfl ?_
      unfold lnS
      rw [if_neg (show ¬ t.1 = 1 by omega), if_neg (show ¬ t.1 = 7 by omega), if_neg (show ¬ t.1 = 13 by omega), if_neg (show ¬ t.1 = 14 by omega), if_neg (show ¬ t.1 = 15 by omega)]
      exact ⟨x8, sPs_q f8⟩
    by_cases w13 : k0 = 13
    · subst w13
      refine Ev.tabIn (q := 102) dX12_readLine_12 (by decide) (by decide) rfl rfl ?_
      refine Ev.aload_n (q := 103) dX12_readLine_102 rfl rfl ?_
      refine Ev.aload_n (q := 104) dX12_readLine_103 rfl rfl ?_
      refine gI (q := 107) dX12_readLine_104 gfX12_84 k211 rfl rfl ?_
      rw [h.2.1.1, ← hk0]
      refine Ev.bipush (q := 109) dX12_readLine_107 kb_13 rfl ?_
      refine Ev.isub (q := 110) dX12_readLine_109 rfl ?_
      rw [show w32 ((13 : Int) - 13) = ((0 : Nat) : Int) by decide]
      refine cV1v (q := 113) (d' := d + 28) dX12_readLine_110 mlX12_165 moX12_readLaw mvX12_readLaw k211 rfl rfl rfl (Nat.le_refl _) rfl rfl rfl (p_X12_readLaw tx N t f 0 hN hX hO h h457 (by decide) (by omega)) (fun r14 m14 e14 => ?_)
      obtain ⟨x8, f8⟩ := e14
      refine Ev.goto (q := 128) dX12_readLine_113 (by decide) ?_
      refine rV dX12_readLine_128 rfl ?_
      unfold lnS
      rw [if_neg (show ¬ t.1 = 1 by omega), if_neg (show ¬ t.1 = 7 by omega), if_pos hk0.symm]
      exact ⟨x8, f8⟩
    by_cases w14 : k0 = 14
    · subst w14
      refine Ev.tabIn (q := 102) dX12_readLine_12 (by decide) (by decide) rfl rfl ?_
      refine Ev.aload_n (q := 103) dX12_readLine_102 rfl rfl ?_
      refine Ev.aload_n (q := 104) dX12_readLine_103 rfl rfl ?_
      refine gI (q := 107) dX12_readLine_104 gfX12_84 k211 rfl rfl ?_
      rw [h.2.1.1, ← hk0]
      refine Ev.bipush (q := 109) dX12_readLine_107 kb_13 rfl ?_
      refine Ev.isub (q := 110) dX12_readLine_109 rfl ?_
      rw [show w32 ((14 : Int) - 13) = ((1 : Nat) : Int) by decide]
      refine cV1v (q := 113) (d' := d + 28) dX12_readLine_110 mlX12_165 moX12_readLaw mvX12_readLaw k211 rfl rfl rfl (Nat.le_refl _) rfl rfl rfl (p_X12_readLaw tx N t f 1 hN hX hO h h457 (by decide) (by omega)) (fun r15 m15 e15 => ?_)
      obtain ⟨x8, f8⟩ := e15
      refine Ev.goto (q := 128) dX12_readLine_113 (by decide) ?_
      refine rV dX12_readLine_128 rfl ?_
      unfold lnS
      rw [if_neg (show ¬ t.1 = 1 by omega), if_neg (show ¬ t.1 = 7 by omega), if_neg (show ¬ t.1 = 13 by omega), if_pos hk0.symm]
      exact ⟨x8, f8⟩
    by_cases w15 : k0 = 15
    · subst w15
      refine Ev.tabIn (q := 116) dX12_readLine_12 (by decide) (by decide) rfl rfl ?_
      refine Ev.aload_n (q := 117) dX12_readLine_116 rfl rfl ?_
      refine cV0v (q := 120) (d' := d + 28) dX12_readLine_117 mlX12_168 moX12_readCalls mvX12_readCalls k211 rfl rfl rfl (Nat.le_refl _) rfl rfl rfl (p_X12_readCalls tx N t f hN hX hO h hR) (fun r16 m16 e16 => ?_)
      obtain ⟨x8, f8⟩ := e16
      refine Ev.goto (q := 128) dX12_readLine_120 (by decide) ?_
      refine rV dX12_readLine_128 rfl ?_
      unfold lnS
      rw [if_neg (show ¬ t.1 = 1 by omega), if_neg (show ¬ t.1 = 7 by omega), if_neg (show ¬ t.1 = 13 by omega), if_neg (show ¬ t.1 = 14 by omega), if_pos hk0.symm]
      exact ⟨x8, sPs_q f8⟩
    refine Ev.tabOut (q := 123) dX12_readLine_12 (by omega) rfl ?_
    refine Ev.aload_n (q := 124) dX12_readLine_123 rfl rfl ?_
    refine Ev.iconst (q := 125) dX12_readLine_124 ki_2 rfl ?_
    refine cV1v (q := 128) (d' := d + 28) dX12_readLine_125 mlX12_114 moX12_fails mvX12_fails k211 rfl rfl rfl (Nat.le_refl _) rfl rfl rfl (p_X12_fails t f 2 (by decide) h) (fun r17 m17 e17 => ?_)
    obtain ⟨x8, f8⟩ := e17
    refine rV dX12_readLine_128 rfl ?_
    unfold lnS
    rw [if_neg (show ¬ t.1 = 1 by omega), if_neg (show ¬ t.1 = 7 by omega), if_neg (show ¬ t.1 = 13 by omega), if_neg (show ¬ t.1 = 14 by omega), if_neg (show ¬ t.1 = 15 by omega)]
    exact ⟨x8, sPs_q f8⟩
  · skip
    omega
