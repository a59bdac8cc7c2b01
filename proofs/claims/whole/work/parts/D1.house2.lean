/-! ===== the house once more: which row is begun with; what no text changes ===== -/
theorem lfR_96 {tx : Nat → Int} {N l : Nat} (hl : l < 3) : ∀ (n : Nat) (t : Tok) (f : Row) (b : Tok × Row), lfR tx N l n t f = .inr b → b.2 96 = f 96 := by
  intro n
  induction n with
  | zero => intro t f b h; unfold lfR at h; cases h; rfl
  | succ n ih =>
    intro t f b h
    unfold lfR at h
    split at h
    · obtain ⟨c, -, h⟩ := bE_inv h; rw [ih _ _ _ h, upg_ne _ _ (by omega)]
    · split at h
      · obtain ⟨c, -, h⟩ := bE_inv h; rw [ih _ _ _ h, upg_ne _ _ (by omega)]
      · split at h
        · obtain ⟨c, -, h⟩ := bE_inv h; rw [ih _ _ _ h, upg_ne _ _ (by omega)]
        · split at h
          · rw [ih _ _ _ h, upg_ne _ _ (by omega)]
          · cases h; rfl
theorem pfR_96 {tx : Nat → Int} {N l : Nat} (hl : l < 8) : ∀ (n : Nat) (t : Tok) (f : Row) (b : Tok × Row), pfR tx N l n t f = .inr b → b.2 96 = f 96 := by
  intro n
  induction n with
  | zero => intro t f b h; unfold pfR at h; cases h; rfl
  | succ n ih =>
    intro t f b h
    unfold pfR at h
    split at h
    · obtain ⟨c, -, h⟩ := bE_inv h; rw [ih _ _ _ h, upg_ne _ _ (by omega), upg_ne _ _ (by omega)]
    · split at h
      · obtain ⟨c, -, h⟩ := bE_inv h; rw [ih _ _ _ h, upg_ne _ _ (by omega), upg_ne _ _ (by omega)]
      · split at h
        · obtain ⟨c, -, h⟩ := bE_inv h; rw [ih _ _ _ h, upg_ne _ _ (by omega)]
        · split at h
          · obtain ⟨c, -, h⟩ := bE_inv h; rw [ih _ _ _ h, upg_ne _ _ (by omega)]
          · split at h
            · obtain ⟨c, -, h⟩ := bE_inv h; rw [ih _ _ _ h, upg_ne _ _ (by omega)]
            · cases h; rfl
theorem lw_96 {tx : Nat → Int} {N law : Nat} {t : Tok} {f : Row} {a : Tok × Row} (hl : law < 2) (h : lwS tx N law t f = .inr a) : a.2 96 = f 96 := by
  unfold lwS at h
  obtain ⟨t1, -, h⟩ := bE_inv h
  obtain ⟨b, -, h⟩ := bE_inv h
  cases h
  dsimp only
  rw [upg_ne _ _ (by omega), upg_ne _ _ (by omega), upg_ne _ _ (by omega), apC_lo _ (by decide)]
theorem ln_96 {tx : Nat → Int} {N : Nat} {t : Tok} {f : Row} {a : Tok × Row} (hO : tOK tx N t) (hR : RI f) (h : lnS tx N t f = .inr a) : a.2 96 = f 96 := by
  obtain ⟨hR1, hR2, hR3⟩ := hR
  unfold lnS at h
  split at h
  · unfold liS at h
    split at h
    · cases h
    · obtain ⟨t1, -, h⟩ := bE_inv h
      obtain ⟨b, -, h⟩ := bE_inv h
      obtain ⟨c, e, h⟩ := bE_inv h
      cases h
      dsimp only
      rw [upg_ne _ _ (by omega), lfR_96 (by omega) _ _ _ _ e, upg_ne _ _ (by omega), upg_ne _ _ (by omega), upg_ne _ _ (by omega), upg_ne _ _ (by omega)]
  · split at h
    · unfold peS at h
      split at h
      · cases h
      · obtain ⟨t1, -, h⟩ := bE_inv h
        obtain ⟨b, -, h⟩ := bE_inv h
        obtain ⟨c, e, h⟩ := bE_inv h
        cases h
        dsimp only
        rw [upg_ne _ _ (by omega), pfR_96 (by omega) _ _ _ _ e, upg_ne _ _ (by omega), upg_ne _ _ (by omega), upg_ne _ _ (by omega), upg_ne _ _ (by omega)]
    · split at h
      · exact lw_96 (by decide) h
      · split at h
        · exact lw_96 (by decide) h
        · split at h
          · unfold caS at h
            obtain ⟨b, h1, h⟩ := bE_inv h
            obtain ⟨t1, -, h⟩ := bE_inv h
            obtain ⟨c, -, h⟩ := bE_inv h
            obtain ⟨-, n2, -, -, -⟩ := nu_inv (tOK_nx hO).1 h1
            cases h
            dsimp only
            rw [upg_ne _ _ (by omega)]
          · cases h
theorem hoL_96 {tx : Nat → Int} {N : Nat} : ∀ (n : Nat) (t : Tok) (f : Row) (a : Tok × Row), LnI tx N t f → hoL tx N n t f = .inr a → a.2 96 = f 96 := by
  intro n
  induction n with
  | zero => intro t f a _ h; unfold hoL at h; cases h; rfl
  | succ n ih =>
    intro t f a hI h
    unfold hoL at h
    split at h
    · cases h; rfl
    · obtain ⟨b, h1, h⟩ := bE_inv h
      obtain ⟨c, h2, h⟩ := bE_inv h
      obtain ⟨-, e2, e3⟩ := en_ok (ln_ok hI.1 hI.2.1 hI.2.2.1 h1).1 h2
      rw [ih _ _ _ (hI.nx h1 h2).1 h, e3, upg_ne _ _ (by decide), ln_96 hI.1 hI.2.1 h1]
theorem hoG_96 {tx : Nat → Int} {N : Nat} {f0 : Row} (h0 : ∀ j, j < 1358 → f0 j = f0R j) {a : Tok × Row} (h : hoG tx N f0 = .inr a) : a.2 96 = 0 := by
  unfold hoG at h
  obtain ⟨t1, h1, h⟩ := bE_inv h
  obtain ⟨b, h2, h⟩ := bE_inv h
  obtain ⟨c, h3, h⟩ := bE_inv h
  obtain ⟨-, -, o1, -⟩ := ea_inv (tOK_0 tx N) (by decide) h1
  obtain ⟨-, n2, -, n4, n5⟩ := nu_inv o1 h2
  obtain ⟨e1, e2, e3⟩ := en_ok n4 h3
  have hRH := (RH_0 h0 (x := b.1) n2).en
  have z0 : f0 0 = 0 := by rw [h0 0 (by decide)]; rfl
  have z4 : f0 457 = 0 := by rw [h0 457 (by decide)]; rfl
  have z9 : f0 96 = 0 := by rw [h0 96 (by decide)]; rfl
  have hL : LnI tx N c.1 c.2 := by
    refine ⟨e1, ?_, ?_, ?_⟩
    · rw [e3]; exact hRH.1
    · rw [e3, upg_ne _ _ (by decide), upg_ne _ _ (by decide), z4]; omega
    · rw [e3, upg_eq, upg_ne _ _ (by decide), z0]; omega
  rw [hoL_96 _ _ _ _ hL h, e3, upg_ne _ _ (by decide), upg_ne _ _ (by decide), z9]
set_option maxRecDepth 4000 in
theorem p_X12_house2 {Γ : Gm} {d : Nat} {m : Mem} (n : Int) (h5 : 0 ≤ m 211 5 ∧ m 211 5 ≤ 900) : Ci Γ (d + 30) MX12_house [rv 211, iv n] m (fun r m' => ((0 ≤ n ∧ n ≤ m 211 5) → ∃ f0 : Row, (∀ j, j < 1358 → f0 j = f0R j) ∧ (∀ j, 1358 ≤ j → f0 j = m 215 j) ∧ PH r (m 212) m' (hoG (m 214) n.toNat f0) ∧ Fr sHo m m') ∧ (¬ (0 ≤ n ∧ n ≤ m 211 5) → r = -3 ∧ Fr sQ m m')) := by
  refine Ci.of moX12_house rfl rfl (fun hA hM => ?_)
  show Em Γ (d + 30) MX12_house _ 0 [rv 211, iv n, uv] [] m
  obtain ⟨tx, htx⟩ : ∃ tx, tx = m 214 := ⟨_, rfl⟩
  refine Ev.aload_n (q := 1) dX12_house_0 rfl rfl ?_
  refine Ev.iconst (q := 2) dX12_house_1 ki_0 rfl ?_
  refine pI (q := 5) dX12_house_2 gfX12_1 k211 rfl rfl ?_
  refine Ev.iload_n (q := 6) dX12_house_5 rfl rfl ?_
  refine Ev.i2l (q := 7) dX12_house_6 rfl ?_
  refine Ev.lconst (q := 8) dX12_house_7 kj_0 rfl ?_
  refine Ev.aload_n (q := 9) dX12_house_8 rfl rfl ?_
  refine gI (q := 12) dX12_house_9 gfX12_56 k211 rfl rfl ?_
  rw [up_k _ _ (by decide)]
  refine Ev.i2l (q := 13) dX12_house_12 rfl ?_
  refine cS3i (q := 16) (d' := d + 29) dX12_house_13 mlX12_118 moX12_within msX12_within rfl rfl (Nat.le_refl _) rfl rfl rfl (p_X12_within _ _ _) (fun r1 m1 e1 => ?_)
  obtain ⟨rfl, e1⟩ := e1
  obtain rfl := e1.symm
  refine Ev.if_ne (tgt := 22) (q := 19) dX12_house_16 (by decide) rfl (fun h2 => ?_) (fun h2 => ?_)
  · skip
    have hn : 0 ≤ n ∧ n ≤ m 211 5 := by split at h2 <;> omega
    refine Ev.aload_n (q := 23) dX12_house_22 rfl rfl ?_
    refine Ev.iload_n (q := 24) dX12_house_23 rfl rfl ?_
    refine pI (q := 27) dX12_house_24 gfX12_59 k211 rfl rfl ?_
    refine Ev.aload_n (q := 28) dX12_house_27 rfl rfl ?_
    refine Ev.iconst (q := 29) dX12_house_28 ki_0 rfl ?_
    refine pI (q := 32) dX12_house_29 gfX12_56 k211 rfl rfl ?_
    refine Ev.aload_n (q := 33) dX12_house_32 rfl rfl ?_
    refine Ev.iconst (q := 34) dX12_house_33 ki_0 rfl ?_
    refine pI (q := 37) dX12_house_34 gfX12_77 k211 rfl rfl ?_
    refine Ev.aload_n (q := 38) dX12_house_37 rfl rfl ?_
    refine Ev.iconst (q := 39) dX12_house_38 ki_0 rfl ?_
    refine pI (q := 42) dX12_house_39 gfX12_102 k211 rfl rfl ?_
    refine Ev.aload_n (q := 43) dX12_house_42 rfl rfl ?_
    refine gR (q := 46) dX12_house_43 gfX12_24 k211 r211_4 rfl rfl ?_
    refine cS1v (q := 49) (d' := d + 29) dX12_house_46 mlX12_52 moX12_plain msX12_plain rfl rfl (Nat.le_refl _) rfl rfl rfl (p_X12_plain 215 1358 k215 (by decide)) (fun r3 m3 e3 => ?_)
    obtain ⟨M9, rfl⟩ : ∃ M9, M9 = m3 := ⟨_, rfl⟩
    obtain ⟨p1, p2, p3⟩ := e3
    obtain ⟨f0, hf0e⟩ : ∃ f0, f0 = M9 215 := ⟨_, rfl⟩
    have hf0 : ∀ j, j < 1358 → f0 j = f0R j := fun j hj => by rw [hf0e]; exact p1 j hj
    have hf1 : ∀ j, 1358 ≤ j → f0 j = m 215 j := fun j hj => by rw [hf0e, p2 j hj]; simp (disch := omega) only [up_o]
    have F9 : Fr sHo m M9 := (((((((Fr.rf _ _).up rfl).up rfl).up rfl).up rfl).up rfl)).tr (p3.mono (fun a k q => sA_f (fun z => by rw [z] at q; cases q)))
    have g5 : M9 211 5 = 0 := by rw [p3 211 5 rfl, up_k _ _ (by decide), up_k _ _ (by decide), up_eq]
    have g7 : M9 211 7 = ((0 : Nat) : Int) := by rw [p3 211 7 rfl, up_k _ _ (by decide), up_eq]; rfl
    have g8 : M9 211 8 = (n.toNat : Int) := by rw [p3 211 8 rfl, up_k _ _ (by decide), up_k _ _ (by decide), up_k _ _ (by decide), up_eq]; omega
    have g11 : M9 211 11 = 0 := by rw [p3 211 11 rfl, up_eq]
    have g12 : M9 212 = m 212 := by rw [p3.rowA (by decide), up_na _ _ (by decide), up_na _ _ (by decide), up_na _ _ (by decide), up_na _ _ (by decide), up_na _ _ (by decide)]
    have g14 : M9 214 = tx := by rw [p3.rowA (by decide), up_na _ _ (by decide), up_na _ _ (by decide), up_na _ _ (by decide), up_na _ _ (by decide), up_na _ _ (by decide), htx]
    have fin : ∀ {pc : Nat} {L S : List Vl} {M : Mem}, Em Γ (d + 30) MX12_house (fun r m' => PH r (m 212) m' (hoG tx n.toNat f0) ∧ Fr sHo m m') pc L S M → Em Γ (d + 30) MX12_house (fun r m' => ((0 ≤ n ∧ n ≤ m 211 5) → ∃ f0 : Row, (∀ j, j < 1358 → f0 j = f0R j) ∧ (∀ j, 1358 ≤ j → f0 j = m 215 j) ∧ PH r (m 212) m' (hoG (m 214) n.toNat f0) ∧ Fr sHo m m') ∧ (¬ (0 ≤ n ∧ n ≤ m 211 5) → r = -3 ∧ Fr sQ m m')) pc L S M := fun k => k.imp (fun r9 m9 h9 => ⟨fun _ => ⟨f0, hf0, hf1, by rw [← htx]; exact h9.1, h9.2⟩, fun z => absurd hn z⟩)
    refine Ev.aload_n (q := 50) dX12_house_49 rfl rfl ?_
    refine cV0v (q := 53) (d' := d + 29) dX12_house_50 mlX12_111 moX12_next mvX12_next k211 rfl rfl rfl (Nat.le_refl _) rfl rfl rfl (p_X12_next n.toNat 0 (by omega) (by omega) g8 g7) (fun r4 m4 e4 => ?_)
    obtain ⟨M8, rfl⟩ : ∃ M8, M8 = m4 := ⟨_, rfl⟩
    obtain ⟨y1, y2⟩ := e4
    rw [g14] at y1
    have f8 := y2.pq
    have x8 : OKm M8 (tokV tx n.toNat 0) f0 := ⟨by rw [y2 211 11 rfl]; exact g11, y1, by rw [y2.row 215 (fun _ => rfl), hf0e]⟩
    have hX8 : TX M8 tx n.toNat := ⟨by rw [y2 211 8 rfl]; exact g8, by rw [y2.row 214 (fun _ => rfl)]; exact g14⟩
    have hO8 := tOK_0 tx n.toNat
    replace g5 : M8 211 5 = 0 := by rw [y2 211 5 rfl]; exact g5
    replace g12 : M8 212 = m 212 := by rw [y2.row 212 (fun _ => rfl)]; exact g12
    replace F9 : Fr sHo m M8 := F9.tr (sPs_q f8).ho
    refine Ev.aload_n (q := 54) dX12_house_53 rfl rfl ?_
    refine Ev.iconst (q := 55) dX12_house_54 ki_0 rfl ?_
    refine cV1i (q := 58) (d' := d + 29) dX12_house_55 mlX12_137 moX12_eats mvX12_eats k211 rfl rfl rfl (Nat.le_refl _) rfl rfl rfl (p_X12_eats tx n.toNat (tokV tx n.toNat 0) f0 0 (by omega) hX8 hO8 x8) (fun r5 m5 e5 => ?_)
    obtain ⟨M7, rfl⟩ : ∃ M7, M7 = m5 := ⟨_, rfl⟩
    obtain ⟨ey, en⟩ := e5
    refine Ev.if_ne (tgt := 66) (q := 61) dX12_house_58 (by decide) rfl (fun h6 => ?_) (fun h6 => ?_)
    · skip
      have hk : (tokV tx n.toNat 0).1 = 0 := Classical.byContradiction fun z => by have := (en z).1; omega
      obtain ⟨-, x7, f7⟩ := ey hk
      have hX7 := hX8.q f7
      have hO7 := (tOK_nx hO8).1
      have hea : eaS tx n.toNat 0 (tokV tx n.toNat 0) = .inr (nxS tx n.toNat (tokV tx n.toNat 0)) := by unfold eaS; rw [if_pos hk]
      refine Ev.aload_n (q := 67) dX12_house_66 rfl rfl ?_
      refine gR (q := 70) dX12_house_67 gfX12_24 k211 r211_4 rfl rfl ?_
      refine Ev.iconst (q := 71) dX12_house_70 ki_1 rfl ?_
      refine Ev.aload_n (q := 72) dX12_house_71 rfl rfl ?_
      refine Ev.iconst (q := 73) dX12_house_72 ki_2 rfl ?_
      refine Ev.bipush (q := 75) dX12_house_73 kb_12 rfl ?_
      refine cV2i (q := 78) (d' := d + 29) dX12_house_75 mlX12_146 moX12_takes mvX12_takes k211 rfl rfl rfl (Nat.le_refl _) rfl rfl rfl (p_X12_takes tx n.toNat (nxS tx n.toNat (tokV tx n.toNat 0)) f0 2 12 (by omega) hX7 hO7 x7) (fun r51 m51 e51 => ?_)
      obtain ⟨M6, rfl⟩ : ∃ M6, M6 = m51 := ⟨_, rfl⟩
      obtain ⟨x6, f6⟩ := e51
      have hX6 := hX7.q f6
      cases hx : nuS tx n.toNat 2 12 (nxS tx n.toNat (tokV tx n.toNat 0)) with
      | inl e =>
        rw [hx] at x6
        have x6 : BDm M6 e := x6
        refine sI (q := 79) (k := 1) dX12_house_78 k215 (by rfl) (by decide) rfl ?_
        refine Ev.aload_n (q := 80) dX12_house_79 rfl rfl ?_
        refine cV0v (q := 83) (d' := d + 29) dX12_house_80 mlX12_171 moX12_ends mvX12_ends k211 rfl rfl rfl (Nat.le_refl _) rfl rfl rfl (p_X12_ends_bd _ ((x6).up _ _)) (fun r91 m91 e91 => ?_)
        obtain ⟨M5, rfl⟩ : ∃ M5, M5 = m91 := ⟨_, rfl⟩
        obtain ⟨x5, f5⟩ := e91
        refine Ev.aload_n (q := 84) dX12_house_83 rfl rfl ?_
        refine gI (q := 87) dX12_house_84 gfX12_102 k211 rfl rfl ?_
        rw [x5.1]
        refine Ev.if_ne (tgt := 110) (q := 90) dX12_house_87 (by decide) rfl (fun h121 => ?_) (fun h121 => ?_)
        · skip
          refine fin ?_
          unfold hoG
          rw [bE_r hea, bE_l hx]
          exact l_houseB n _ x5 (by rw [f5 211 5 rfl]; rw [up_o _ _ (by decide), f6 211 5 rfl, f7 211 5 rfl]; exact g5) (by rw [f5.row 212 (fun _ => rfl)]; rw [up_na _ _ (by decide), f6.row 212 (fun _ => rfl), f7.row 212 (fun _ => rfl)]; exact g12) (((F9.tr ((sPs_q (f7.tr f6)).ho)).up rfl).tr (sPs_q f5).ho)
        · skip
          exact absurd (by assumption) x5.2.1
      | inr a =>
        rw [hx] at x6
        obtain ⟨xr, x6⟩ : _ = a.1 ∧ OKm M6 a.2 f0 := x6
        obtain ⟨n1, n2, n3, n4, n5⟩ := nu_inv hO7 hx
        have hle2 := tO_le n4
        rw [xr]
        refine sI (q := 79) (k := 1) dX12_house_78 k215 (by rfl) (by decide) rfl ?_
        refine Ev.aload_n (q := 80) dX12_house_79 rfl rfl ?_
        refine cV0v (q := 83) (d' := d + 29) dX12_house_80 mlX12_171 moX12_ends mvX12_ends k211 rfl rfl rfl (Nat.le_refl _) rfl rfl rfl (p_X12_ends tx (n.toNat) a.2 (upg f0 1 a.1) (by omega) (hX6.q ((Fr.rf sPq _).up rfl)) n4 (x6.up 1 a.1) (by rw [upg_ne _ _ (by decide), hf0 0 (by decide)]; decide)) (fun r71 m71 e71 => ?_)
        obtain ⟨M5, rfl⟩ : ∃ M5, M5 = m71 := ⟨_, rfl⟩
        obtain ⟨x5, f5⟩ := e71
        have k5 : M5 211 5 = 0 := by rw [f5 211 5 rfl, up_o _ _ (by decide), f6 211 5 rfl, f7 211 5 rfl]; exact g5
        have k12 : M5 212 = m 212 := by rw [f5.row 212 (fun _ => rfl), up_na _ _ (by decide), f6.row 212 (fun _ => rfl), f7.row 212 (fun _ => rfl)]; exact g12
        have K5 : Fr sHo m M5 := ((F9.tr ((sPs_q (f7.tr f6)).ho)).up rfl).tr (sPs_q f5).ho
        cases hz : enS tx n.toNat a.2 (upg f0 1 a.1) with
        | inl e =>
          rw [hz] at x5
          have x5 : BDm M5 e := x5
          refine Ev.aload_n (q := 84) dX12_house_83 rfl rfl ?_
          refine gI (q := 87) dX12_house_84 gfX12_102 k211 rfl rfl ?_
          rw [x5.1]
          refine Ev.if_ne (tgt := 110) (q := 90) dX12_house_87 (by decide) rfl (fun h121 => ?_) (fun h121 => ?_)
          · skip
            refine fin ?_
            unfold hoG
            rw [bE_r hea, bE_r hx, bE_l hz]
            exact l_houseB n e x5 k5 k12 K5
          · skip
            exact absurd (by assumption) x5.2.1
        | inr b =>
          rw [hz] at x5
          have x5 : OKm M5 b.1 b.2 := x5
          obtain ⟨e1, e2, e3⟩ := en_ok n4 hz
          refine fin ?_
          unfold hoG
          rw [bE_r hea, bE_r hx, bE_r hz]
          refine l_house (m0 := m) tx n.toNat n (by omega) (n.toNat + 1) b.1 b.2 M5 x5 ((hX6.q ((Fr.rf sPq _).up rfl)).q f5) ⟨e1, ?_, ?_, ?_⟩ (by omega) k5 k12 K5
          · rw [e3]
            refine ⟨?_, ?_, ?_⟩
            · rw [upg_ne _ _ (show 1 ≠ 0 by decide), upg_eq]; exact n2
            · rw [upg_ne _ _ (show 2 ≠ 0 by decide), upg_ne _ _ (show 2 ≠ 1 by decide), hf0 2 (by decide)]; decide
            · rw [upg_ne _ _ (show 3 ≠ 0 by decide), upg_ne _ _ (show 3 ≠ 1 by decide), hf0 3 (by decide)]; decide
          · rw [e3, upg_ne _ _ (by decide), upg_ne _ _ (by decide), hf0 457 (by decide)]; show 0 ≤ (0 : Int) ∧ (0 : Int) ≤ _; omega
          · rw [e3, upg_eq, upg_ne _ _ (by decide), hf0 0 (by decide)]; show 0 ≤ (0 : Int) + 1 ∧ (0 : Int) + 1 ≤ _; omega
    · skip
      have hk : ¬ (tokV tx n.toNat 0).1 = 0 := fun z => by have := (ey z).1; omega
      obtain ⟨-, rfl⟩ := en hk
      have hea : eaS tx n.toNat 0 (tokV tx n.toNat 0) = flS (tokV tx n.toNat 0) 2 := by unfold eaS; rw [if_neg hk]
      refine Ev.aload_n (q := 62) dX12_house_61 rfl rfl ?_
      refine Ev.iconst (q := 63) dX12_house_62 ki_2 rfl ?_
      refine cV1v (q := 66) (d' := d + 29) dX12_house_63 mlX12_114 moX12_fails mvX12_fails k211 rfl rfl rfl (Nat.le_refl _) rfl rfl rfl (p_X12_fails (tokV tx n.toNat 0) f0 2 (by decide) x8) (fun r7 m7 e7 => ?_)
      obtain ⟨M6, rfl⟩ : ∃ M6, M6 = m7 := ⟨_, rfl⟩
      obtain ⟨b1, b2⟩ := e7
      refine Ev.aload_n (q := 67) dX12_house_66 rfl rfl ?_
      refine gR (q := 70) dX12_house_67 gfX12_24 k211 r211_4 rfl rfl ?_
      refine Ev.iconst (q := 71) dX12_house_70 ki_1 rfl ?_
      refine Ev.aload_n (q := 72) dX12_house_71 rfl rfl ?_
      refine Ev.iconst (q := 73) dX12_house_72 ki_2 rfl ?_
      refine Ev.bipush (q := 75) dX12_house_73 kb_12 rfl ?_
      refine cV2i (q := 78) (d' := d + 29) dX12_house_75 mlX12_146 moX12_takes mvX12_takes k211 rfl rfl rfl (Nat.le_refl _) rfl rfl rfl (p_X12_takes_bd _ _ _ b1) (fun r91 m91 e91 => ?_)
      obtain rfl := (show _ = _ from e91).symm
      refine sI (q := 79) (k := 1) dX12_house_78 k215 (by rfl) (by decide) rfl ?_
      refine Ev.aload_n (q := 80) dX12_house_79 rfl rfl ?_
      refine cV0v (q := 83) (d' := d + 29) dX12_house_80 mlX12_171 moX12_ends mvX12_ends k211 rfl rfl rfl (Nat.le_refl _) rfl rfl rfl (p_X12_ends_bd _ ((b1).up _ _)) (fun r92 m92 e92 => ?_)
      obtain ⟨M5, rfl⟩ : ∃ M5, M5 = m92 := ⟨_, rfl⟩
      obtain ⟨x5, f5⟩ := e92
      refine Ev.aload_n (q := 84) dX12_house_83 rfl rfl ?_
      refine gI (q := 87) dX12_house_84 gfX12_102 k211 rfl rfl ?_
      rw [x5.1]
      refine Ev.if_ne (tgt := 110) (q := 90) dX12_house_87 (by decide) rfl (fun h121 => ?_) (fun h121 => ?_)
      · skip
        refine fin ?_
        unfold hoG
        rw [bE_l (hea.trans rfl)]
        exact l_houseB n _ x5 (by rw [f5 211 5 rfl]; rw [up_o _ _ (by decide), b2 211 5 rfl]; exact g5) (by rw [f5.row 212 (fun _ => rfl)]; rw [up_na _ _ (by decide), b2.row 212 (fun _ => rfl)]; exact g12) (((F9.tr (sPs_q b2).ho).up rfl).tr (sPs_q f5).ho)
      · skip
        exact absurd (by assumption) x5.2.1
  · skip
    refine Ev.bipush (q := 21) dX12_house_19 kb_m3 rfl ?_
    refine rI dX12_house_21 rfl ?_
    exact ⟨fun z => absurd z (by split at h2 <;> omega), fun _ => ⟨rfl, (Fr.rf _ _).up rfl⟩⟩
set_option maxRecDepth 4000 in
theorem l_restore2 {Γ : Gm} {d : Nat} {m : Mem} (i : Nat) (g : Nat → Int) (hi : i < 2) : ∀ (q k : Nat) (M : Mem), k + q = 1358 → (∀ j, M 212 j = if j < k then g (1358 * (i + 1) + j) else g j) → Fr sD m M → Em Γ (d + 1) MX12_restore (fun r m' => r = 0 ∧ m' 212 = resG g i ∧ Fr sD m m') 32 [rv 211, iv i, iv k] [] M := by
  intro q
  induction q with
  | zero =>
    intro k M hk hv hFr
    obtain rfl : k = 1358 := by omega
    refine Ev.iload_n (q := 33) dX12_restore_32 rfl rfl ?_
    refine Ev.sipush (q := 36) dX12_restore_33 kh_1358 rfl ?_
    refine Ev.icmp_ge (tgt := 65) (q := 39) dX12_restore_36 (by decide) rfl (fun h1 => ?_) (fun h1 => ?_)
    · skip
      refine Ev.aload_n (q := 66) dX12_restore_65 rfl rfl ?_
      refine gR (q := 69) dX12_restore_66 gfX12_13 k211 r211_1 rfl rfl ?_
      refine Ev.bipush (q := 71) dX12_restore_69 kb_96 rfl ?_
      refine Ev.iconst (q := 72) dX12_restore_71 ki_0 rfl ?_
      refine sI (q := 73) (k := 96) dX12_restore_72 k212 (by rfl) (by decide) rfl ?_
      refine Ev.iconst (q := 74) dX12_restore_73 ki_0 rfl ?_
      refine rI dX12_restore_74 rfl ?_
      refine ⟨rfl, ?_, hFr.up rfl⟩
      rw [up_row]; funext j; unfold upg resG; by_cases h1 : j = 96
      · rw [if_pos h1, if_pos h1]
      · rw [if_neg h1, if_neg h1, hv j]
    · skip
      omega
  | succ q ih =>
    intro k M hk hv hFr
    refine Ev.iload_n (q := 33) dX12_restore_32 rfl rfl ?_
    refine Ev.sipush (q := 36) dX12_restore_33 kh_1358 rfl ?_
    refine Ev.icmp_ge (tgt := 65) (q := 39) dX12_restore_36 (by decide) rfl (fun h1 => ?_) (fun h1 => ?_)
    · skip
      omega
    · skip
      refine Ev.aload_n (q := 40) dX12_restore_39 rfl rfl ?_
      refine gR (q := 43) dX12_restore_40 gfX12_13 k211 r211_1 rfl rfl ?_
      refine Ev.iload_n (q := 44) dX12_restore_43 rfl rfl ?_
      refine Ev.aload_n (q := 45) dX12_restore_44 rfl rfl ?_
      refine gR (q := 48) dX12_restore_45 gfX12_13 k211 r211_1 rfl rfl ?_
      refine Ev.sipush (q := 51) dX12_restore_48 kh_1358 rfl ?_
      refine Ev.iload_n (q := 52) dX12_restore_51 rfl rfl ?_
      refine Ev.iconst (q := 53) dX12_restore_52 ki_1 rfl ?_
      refine Ev.iadd (q := 54) dX12_restore_53 rfl ?_
      refine Ev.imul (q := 55) dX12_restore_54 rfl ?_
      refine Ev.iload_n (q := 56) dX12_restore_55 rfl rfl ?_
      refine Ev.iadd (q := 57) dX12_restore_56 rfl ?_
      refine aI (q := 58) (k := 1358 * (i + 1) + k) dX12_restore_57 k212 (by first | rfl | omega | (simp (disch := omega) only [w32_of]; omega)) (by omega) rfl ?_
      refine sI (q := 59) (k := k) dX12_restore_58 k212 (by first | rfl | omega | (simp (disch := omega) only [w32_of]; omega)) (by omega) rfl ?_
      refine iinc_2 (q := 62) dX12_restore_59 rfl rfl rfl ?_
      refine Ev.goto (q := 32) dX12_restore_62 (by decide) ?_
      rw [w32_of (z := (k : Int) + 1) (by omega) (by omega)]
      refine ih (k + 1) _ (by omega) (fun j => ?_) (hFr.up rfl)
      by_cases hj : j = k
      · rw [hj, up_eq, if_pos (by omega), hv, if_neg (by omega)]
      · rw [up_k _ _ hj, hv j]
        by_cases hq : j < k
        · rw [if_pos hq, if_pos (by omega)]
        · rw [if_neg hq, if_neg (by omega)]
set_option maxRecDepth 4000 in
theorem p_X12_restore2 {Γ : Gm} {d : Nat} {m : Mem} (i : Int) : Ci Γ (d + 1) MX12_restore [rv 211, iv i] m (fun r m' => (((0 ≤ i ∧ i ≤ 1) ∧ ¬ m 213 i.toNat = 0) → r = 0 ∧ m' 212 = resG (m 212) i.toNat ∧ Fr sD m m') ∧ (¬ ((0 ≤ i ∧ i ≤ 1) ∧ ¬ m 213 i.toNat = 0) → r = (if 0 ≤ i ∧ i ≤ 1 then -5 else -2) ∧ Fr sQ m m')) := by
  refine Ci.of moX12_restore rfl rfl (fun hA hM => ?_)
  show Em Γ (d + 1) MX12_restore _ 0 [rv 211, iv i, uv] [] m
  refine Ev.aload_n (q := 1) dX12_restore_0 rfl rfl ?_
  refine Ev.iconst (q := 2) dX12_restore_1 ki_0 rfl ?_
  refine pI (q := 5) dX12_restore_2 gfX12_1 k211 rfl rfl ?_
  obtain ⟨M0, hM0⟩ : ∃ M0, M0 = up m 211 0 0 := ⟨_, rfl⟩
  rw [← hM0]
  have hF0 : Fr sQ m M0 := by rw [hM0]; exact (Fr.rf _ _).up rfl
  have g0 : M0 212 = m 212 := hF0.row 212 (fun _ => rfl)
  clear hM0
  have g13 : M0 213 = m 213 := hF0.row 213 (fun _ => rfl)
  rw [← g13]
  refine Ev.iload_n (q := 6) dX12_restore_5 rfl rfl ?_
  refine Ev.i2l (q := 7) dX12_restore_6 rfl ?_
  refine Ev.lconst (q := 8) dX12_restore_7 kj_0 rfl ?_
  refine Ev.lconst (q := 9) dX12_restore_8 kj_1 rfl ?_
  refine cS3i (q := 12) (d' := d + 0) dX12_restore_9 mlX12_118 moX12_within msX12_within rfl rfl (Nat.le_refl _) rfl rfl rfl (p_X12_within _ _ _) (fun r1 m1 e1 => ?_)
  obtain ⟨rfl, e1⟩ := e1
  obtain rfl := e1.symm
  refine Ev.if_ne (tgt := 18) (q := 15) dX12_restore_12 (by decide) rfl (fun h2 => ?_) (fun h2 => ?_)
  · skip
    have hi : 0 ≤ i ∧ i ≤ 1 := by split at h2 <;> omega
    obtain ⟨iN, rfl⟩ : ∃ iN : Nat, i = iN := ⟨i.toNat, by omega⟩
    refine Ev.aload_n (q := 19) dX12_restore_18 rfl rfl ?_
    refine gR (q := 22) dX12_restore_19 gfX12_17 k211 r211_2 rfl rfl ?_
    refine Ev.iload_n (q := 23) dX12_restore_22 rfl rfl ?_
    refine aZ (q := 24) (k := iN) dX12_restore_23 k213 (by first | rfl | omega | (simp (disch := omega) only [w32_of]; omega)) (by omega) rfl ?_
    refine Ev.if_ne (tgt := 30) (q := 27) dX12_restore_24 (by decide) rfl (fun h3 => ?_) (fun h3 => ?_)
    · skip
      refine Ev.iconst (q := 31) dX12_restore_30 ki_0 rfl ?_
      refine istore_n_2 (q := 32) dX12_restore_31 rfl rfl rfl ?_
      refine Em.imp ?_ (l_restore2 (Γ := Γ) (d := d) (m := m) iN (M0 212) (by omega) 1358 0 M0 (by omega) (fun j => by rw [if_neg (by omega)]) (hF0.mono (fun a k q => sD_Q q)))
      intro r m' h9
      refine ⟨fun _ => ?_, fun z => absurd ⟨hi, by simpa only [Int.toNat_natCast] using (by assumption)⟩ z⟩
      rw [Int.toNat_natCast, ← g0]
      exact h9
    · skip
      refine Ev.bipush (q := 29) dX12_restore_27 kb_m5 rfl ?_
      refine rI dX12_restore_29 rfl ?_
      refine ⟨fun z => absurd (show M0 213 iN = 0 by assumption) (by simpa only [Int.toNat_natCast] using z.2), fun _ => ⟨by rw [if_pos hi], hF0⟩⟩
  · skip
    have hi : ¬ (0 ≤ i ∧ i ≤ 1) := by split at h2 <;> omega
    refine Ev.bipush (q := 17) dX12_restore_15 kb_m2 rfl ?_
    refine rI dX12_restore_17 rfl ?_
    exact ⟨fun z => absurd z.1 hi, fun _ => ⟨by rw [if_neg hi], hF0⟩⟩
