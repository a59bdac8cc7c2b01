/-! ===== the reference: lifts, people, calls ===== -/
section FLAGS
variable (tx : Nat → Int) (N : Nat)
/-- a flag of a lift, if there is one -/
def lf1 (l : Nat) (t : Tok) (f : Row) : Option (Er (Tok × Row)) :=
  if t.1 = 3 then some (bE (nuS tx N 1 60 (nxS tx N t)) fun a => .inr (a.2, upg f (22 + l) a.1)) else
  if t.1 = 4 then some (bE (nuS tx N 0 99 (nxS tx N t)) fun a => .inr (a.2, upg f (25 + l) a.1)) else
  if t.1 = 5 then some (bE (litR tx N (f (60 + l)) (f 1 - 1) (N + 1) 0 (nxS tx N t)) fun a => .inr (a.2, upg f (66 + l) (a.1 : Int))) else
  if t.1 = 6 then some (.inr (nxS tx N t, upg f (69 + l) 0)) else none
def pf1 (p : Nat) (t : Tok) (f : Row) : Option (Er (Tok × Row)) :=
  if t.1 = 2 then some (bE (nuS tx N 0 (f 1 - 1) (nxS tx N t)) fun a => .inr (a.2, upg (upg f (72 + p) a.1) (88 + p) (-1))) else
  if t.1 = 9 then some (bE (nuS tx N 0 (f 2 - 1) (nxS tx N t)) fun a => .inr (a.2, upg (upg f (72 + p) (f (60 + a.1.toNat))) (88 + p) a.1)) else
  if t.1 = 10 then some (bE (nuS tx N 0 99 (nxS tx N t)) fun a => .inr (a.2, upg f (36 + p) a.1)) else
  if t.1 = 11 then some (bE (nuS tx N 0 99 (nxS tx N t)) fun a => .inr (a.2, upg f (44 + p) a.1)) else
  if t.1 = 12 then some (bE (nuS tx N 1 99 (nxS tx N t)) fun a => .inr (a.2, upg f (52 + p) a.1)) else none
end FLAGS
theorem lf1_3 {tx : Nat → Int} {N l : Nat} {t : Tok} {f : Row} (h : t.1 = 3) : lf1 tx N l t f = some (bE (nuS tx N 1 60 (nxS tx N t)) fun a => .inr (a.2, upg f (22 + l) a.1)) := by unfold lf1; rw [if_pos h]
theorem lf1_4 {tx : Nat → Int} {N l : Nat} {t : Tok} {f : Row} (h : t.1 = 4) : lf1 tx N l t f = some (bE (nuS tx N 0 99 (nxS tx N t)) fun a => .inr (a.2, upg f (25 + l) a.1)) := by unfold lf1; rw [if_neg (by omega), if_pos h]
theorem lf1_5 {tx : Nat → Int} {N l : Nat} {t : Tok} {f : Row} (h : t.1 = 5) : lf1 tx N l t f = some (bE (litR tx N (f (60 + l)) (f 1 - 1) (N + 1) 0 (nxS tx N t)) fun a => .inr (a.2, upg f (66 + l) (a.1 : Int))) := by unfold lf1; rw [if_neg (by omega), if_neg (by omega), if_pos h]
theorem lf1_6 {tx : Nat → Int} {N l : Nat} {t : Tok} {f : Row} (h : t.1 = 6) : lf1 tx N l t f = some (.inr (nxS tx N t, upg f (69 + l) 0)) := by unfold lf1; rw [if_neg (by omega), if_neg (by omega), if_neg (by omega), if_pos h]
theorem pf1_2 {tx : Nat → Int} {N p : Nat} {t : Tok} {f : Row} (h : t.1 = 2) : pf1 tx N p t f = some (bE (nuS tx N 0 (f 1 - 1) (nxS tx N t)) fun a => .inr (a.2, upg (upg f (72 + p) a.1) (88 + p) (-1))) := by unfold pf1; rw [if_pos h]
theorem pf1_9 {tx : Nat → Int} {N p : Nat} {t : Tok} {f : Row} (h : t.1 = 9) : pf1 tx N p t f = some (bE (nuS tx N 0 (f 2 - 1) (nxS tx N t)) fun a => .inr (a.2, upg (upg f (72 + p) (f (60 + a.1.toNat))) (88 + p) a.1)) := by unfold pf1; rw [if_neg (by omega), if_pos h]
theorem pf1_10 {tx : Nat → Int} {N p : Nat} {t : Tok} {f : Row} (h : t.1 = 10) : pf1 tx N p t f = some (bE (nuS tx N 0 99 (nxS tx N t)) fun a => .inr (a.2, upg f (36 + p) a.1)) := by unfold pf1; rw [if_neg (by omega), if_neg (by omega), if_pos h]
theorem pf1_11 {tx : Nat → Int} {N p : Nat} {t : Tok} {f : Row} (h : t.1 = 11) : pf1 tx N p t f = some (bE (nuS tx N 0 99 (nxS tx N t)) fun a => .inr (a.2, upg f (44 + p) a.1)) := by unfold pf1; rw [if_neg (by omega), if_neg (by omega), if_neg (by omega), if_pos h]
theorem pf1_12 {tx : Nat → Int} {N p : Nat} {t : Tok} {f : Row} (h : t.1 = 12) : pf1 tx N p t f = some (bE (nuS tx N 1 99 (nxS tx N t)) fun a => .inr (a.2, upg f (52 + p) a.1)) := by unfold pf1; rw [if_neg (by omega), if_neg (by omega), if_neg (by omega), if_neg (by omega), if_pos h]
theorem lfR_1 {tx : Nat → Int} {N l n : Nat} {t : Tok} {f : Row} : lfR tx N l (n + 1) t f = match lf1 tx N l t f with
    | none => .inr (t, f)
    | some x => bE x fun a => lfR tx N l n a.1 a.2 := by
  conv => lhs; unfold lfR
  unfold lf1
  by_cases h3 : t.1 = 3
  · rw [if_pos h3, if_pos h3]; dsimp only; rw [bE_a]; rfl
  · rw [if_neg h3, if_neg h3]
    by_cases h4 : t.1 = 4
    · rw [if_pos h4, if_pos h4]; dsimp only; rw [bE_a]; rfl
    · rw [if_neg h4, if_neg h4]
      by_cases h5 : t.1 = 5
      · rw [if_pos h5, if_pos h5]; dsimp only; rw [bE_a]; rfl
      · rw [if_neg h5, if_neg h5]
        by_cases h6 : t.1 = 6
        · rw [if_pos h6, if_pos h6]; rfl
        · rw [if_neg h6, if_neg h6]
theorem pfR_1 {tx : Nat → Int} {N p n : Nat} {t : Tok} {f : Row} : pfR tx N p (n + 1) t f = match pf1 tx N p t f with
    | none => .inr (t, f)
    | some x => bE x fun a => pfR tx N p n a.1 a.2 := by
  conv => lhs; unfold pfR
  unfold pf1
  by_cases h3 : t.1 = 2
  · rw [if_pos h3, if_pos h3]; dsimp only; rw [bE_a]; rfl
  · rw [if_neg h3, if_neg h3]
    by_cases h4 : t.1 = 9
    · rw [if_pos h4, if_pos h4]; dsimp only; rw [bE_a]; rfl
    · rw [if_neg h4, if_neg h4]
      by_cases h5 : t.1 = 10
      · rw [if_pos h5, if_pos h5]; dsimp only; rw [bE_a]; rfl
      · rw [if_neg h5, if_neg h5]
        by_cases h6 : t.1 = 11
        · rw [if_pos h6, if_pos h6]; dsimp only; rw [bE_a]; rfl
        · rw [if_neg h6, if_neg h6]
          by_cases h7 : t.1 = 12
          · rw [if_pos h7, if_pos h7]; dsimp only; rw [bE_a]; rfl
          · rw [if_neg h7, if_neg h7]
theorem lit_inv {tx : Nat → Int} {N : Nat} {own hi : Int} (hhi : hi ≤ 11) : ∀ (n s : Nat) (t : Tok) (a : Nat × Tok), tOK tx N t → s < 2 ^ 12 → N - t.2.1 + 1 ≤ n → litR tx N own hi n s t = .inr a → tOK tx N a.2 ∧ t.2.1 + 1 ≤ a.2.2.1 ∧ a.1 < 2 ^ 12 := by
  intro n
  induction n with
  | zero => intro s t a hO hs hn; omega
  | succ n ih =>
    intro s t a hO hs hn h
    by_cases hw : t.1 = 23 ∧ t.2.2.2 = own
    · rw [litR_own hw] at h; cases h
    · cases hx : nuS tx N 0 hi t with
      | inl e => rw [litR_el hw hx] at h; cases h
      | inr b =>
        obtain ⟨n1, n2, n3, n4, n5⟩ := nu_inv hO hx
        have hs2 : s ||| 2 ^ b.1.toNat < 2 ^ 12 := Nat.or_lt_two_pow hs (two_lt (by omega))
        have := tO_le n4
        rw [litR_r hw hx] at h
        by_cases hd : b.2.1 = 23
        · rw [if_pos hd] at h
          obtain ⟨q1, q2, q3⟩ := ih _ _ _ n4 hs2 (by omega) h
          exact ⟨q1, by omega, q3⟩
        · rw [if_neg hd] at h
          cases h
          exact ⟨n4, n5, hs2⟩
/-- a flag consumes, and keeps the numbers -/
theorem lf1_ok {tx : Nat → Int} {N l : Nat} {t : Tok} {f : Row} {a : Tok × Row} (hO : tOK tx N t) (hR : RI f) (h : lf1 tx N l t f = some (.inr a)) : tOK tx N a.1 ∧ t.2.1 + 1 ≤ a.1.2.1 ∧ RI a.2 ∧ a.2 2 = f 2 ∧ a.2 1 = f 1 := by
  unfold lf1 at h
  have hO1 := (tOK_nx hO).1
  split at h
  · rename_i hk
    have hx := nx_lt hO (show ¬ t.1 = 24 by omega)
    injection h with h
    obtain ⟨b, h1, h2⟩ := bE_inv h
    obtain ⟨n1, n2, n3, n4, n5⟩ := nu_inv hO1 h1
    cases h2
    exact ⟨n4, by dsimp only; omega, hR.up (by omega) _, upg_ne _ _ (by omega), upg_ne _ _ (by omega)⟩
  · split at h
    · rename_i hk
      have hx := nx_lt hO (show ¬ t.1 = 24 by omega)
      injection h with h
      obtain ⟨b, h1, h2⟩ := bE_inv h
      obtain ⟨n1, n2, n3, n4, n5⟩ := nu_inv hO1 h1
      cases h2
      exact ⟨n4, by dsimp only; omega, hR.up (by omega) _, upg_ne _ _ (by omega), upg_ne _ _ (by omega)⟩
    · split at h
      · rename_i hk
        have hx := nx_lt hO (show ¬ t.1 = 24 by omega)
        injection h with h
        obtain ⟨b, h1, h2⟩ := bE_inv h
        have hle := tO_le hO1
        obtain ⟨n1, n2, n3⟩ := lit_inv (by have := hR.1; omega) (N + 1) 0 _ b hO1 (by decide) (by omega) h1
        cases h2
        exact ⟨n1, by dsimp only; omega, hR.up (by omega) _, upg_ne _ _ (by omega), upg_ne _ _ (by omega)⟩
      · split at h
        · rename_i hk
          have hx := nx_lt hO (show ¬ t.1 = 24 by omega)
          injection h with h
          cases h
          exact ⟨hO1, hx, hR.up (by omega) _, upg_ne _ _ (by omega), upg_ne _ _ (by omega)⟩
        · cases h
theorem pf1_ok {tx : Nat → Int} {N p : Nat} {t : Tok} {f : Row} {a : Tok × Row} (hO : tOK tx N t) (hR : RI f) (h : pf1 tx N p t f = some (.inr a)) : tOK tx N a.1 ∧ t.2.1 + 1 ≤ a.1.2.1 ∧ RI a.2 ∧ a.2 3 = f 3 ∧ a.2 2 = f 2 ∧ a.2 1 = f 1 := by
  unfold pf1 at h
  have hO1 := (tOK_nx hO).1
  have two : ∀ (g : Row) (j k : Nat) (x y : Int), 4 ≤ j → 4 ≤ k → RI g → RI (upg (upg g j x) k y) := fun g j k x y h1 h2 h3 => (h3.up h1 x).up h2 y
  repeat' split at h
  all_goals first | (cases h; done) | skip
  all_goals
    rename_i hk
    have hx := nx_lt hO (show ¬ t.1 = 24 by omega)
    injection h with h
    obtain ⟨b, h1, h2⟩ := bE_inv h
    obtain ⟨n1, n2, n3, n4, n5⟩ := nu_inv hO1 h1
    cases h2
    refine ⟨n4, by dsimp only; omega, ?_, ?_, ?_, ?_⟩
    · first | exact hR.up (by omega) _ | exact two _ _ _ _ _ (by omega) (by omega) hR
    · first | exact upg_ne _ _ (by omega) | (show upg _ _ _ _ = _; rw [upg_ne _ _ (by omega), upg_ne _ _ (by omega)])
    · first | exact upg_ne _ _ (by omega) | (show upg _ _ _ _ = _; rw [upg_ne _ _ (by omega), upg_ne _ _ (by omega)])
    · first | exact upg_ne _ _ (by omega) | (show upg _ _ _ _ = _; rw [upg_ne _ _ (by omega), upg_ne _ _ (by omega)])
/-- the answer of a flag -/
def PF (r : Int) (m m' : Mem) (x : Option (Er (Tok × Row))) : Prop := match x with
  | none => r = 0 ∧ m' = m
  | some (.inl e) => r = 0 ∧ BDm m' e
  | some (.inr a) => r = 1 ∧ OKm m' a.1 a.2
set_option maxRecDepth 4000 in
theorem p_X12_readLiftFlag {Γ : Gm} {d : Nat} {m : Mem} (tx : Nat → Int) (N : Nat) (t : Tok) (f : Row) (l : Nat) (hN : N ≤ 900) (hX : TX m tx N) (hO : tOK tx N t) (h : OKm m t f) (hR : RI f) (hl : l < 3) : Ci Γ (d + 8) MX12_readLiftFlag [rv 211, iv l] m (fun r m' => PF r m m' (lf1 tx N l t f) ∧ Fr sPq m m') := by
  refine Ci.of moX12_readLiftFlag rfl rfl (fun hA hM => ?_)
  show Em Γ (d + 8) MX12_readLiftFlag _ 0 [rv 211, iv l] [] m
  refine Ev.aload_n (q := 1) dX12_readLiftFlag_0 rfl rfl ?_
  refine Ev.iconst (q := 2) dX12_readLiftFlag_1 ki_3 rfl ?_
  refine cV1i (q := 5) (d' := d + 7) dX12_readLiftFlag_2 mlX12_137 moX12_eats mvX12_eats k211 rfl rfl rfl (Nat.le_refl _) rfl rfl rfl (p_X12_eats tx N t f 3 hN hX hO h) (fun r1 m1 e1 => ?_)
  obtain ⟨M9, rfl⟩ : ∃ M9, M9 = m1 := ⟨_, rfl⟩
  obtain ⟨ey, en⟩ := e1
  refine Ev.if_eq (tgt := 27) (q := 8) dX12_readLiftFlag_5 (by decide) rfl (fun h2 => ?_) (fun h2 => ?_)
  · skip
    have hn3 : ¬ t.1 = 3 := fun z => by have := (ey z).1; omega
    obtain ⟨-, rfl⟩ := en hn3
    refine Ev.aload_n (q := 28) dX12_readLiftFlag_27 rfl rfl ?_
    refine Ev.iconst (q := 29) dX12_readLiftFlag_28 ki_4 rfl ?_
    refine cV1i (q := 32) (d' := d + 7) dX12_readLiftFlag_29 mlX12_137 moX12_eats mvX12_eats k211 rfl rfl rfl (Nat.le_refl _) rfl rfl rfl (p_X12_eats tx N t f 4 hN hX hO h) (fun r3 m3 e3 => ?_)
    obtain ⟨M9, rfl⟩ : ∃ M9, M9 = m3 := ⟨_, rfl⟩
    obtain ⟨ey, en⟩ := e3
    refine Ev.if_eq (tgt := 54) (q := 35) dX12_readLiftFlag_32 (by decide) rfl (fun h4 => ?_) (fun h4 => ?_)
    · skip
      have hn4 : ¬ t.1 = 4 := fun z => by have := (ey z).1; omega
      obtain ⟨-, rfl⟩ := en hn4
      refine Ev.aload_n (q := 55) dX12_readLiftFlag_54 rfl rfl ?_
      refine Ev.iconst (q := 56) dX12_readLiftFlag_55 ki_5 rfl ?_
      refine cV1i (q := 59) (d' := d + 7) dX12_readLiftFlag_56 mlX12_137 moX12_eats mvX12_eats k211 rfl rfl rfl (Nat.le_refl _) rfl rfl rfl (p_X12_eats tx N t f 5 hN hX hO h) (fun r5 m5 e5 => ?_)
      obtain ⟨M9, rfl⟩ : ∃ M9, M9 = m5 := ⟨_, rfl⟩
      obtain ⟨ey, en⟩ := e5
      refine Ev.if_eq (tgt := 70) (q := 62) dX12_readLiftFlag_59 (by decide) rfl (fun h6 => ?_) (fun h6 => ?_)
      · skip
        have hn5 : ¬ t.1 = 5 := fun z => by have := (ey z).1; omega
        obtain ⟨-, rfl⟩ := en hn5
        refine Ev.aload_n (q := 71) dX12_readLiftFlag_70 rfl rfl ?_
        refine Ev.bipush (q := 73) dX12_readLiftFlag_71 kb_6 rfl ?_
        refine cV1i (q := 76) (d' := d + 7) dX12_readLiftFlag_73 mlX12_137 moX12_eats mvX12_eats k211 rfl rfl rfl (Nat.le_refl _) rfl rfl rfl (p_X12_eats tx N t f 6 hN hX hO h) (fun r7 m7 e7 => ?_)
        obtain ⟨M9, rfl⟩ : ∃ M9, M9 = m7 := ⟨_, rfl⟩
        obtain ⟨ey, en⟩ := e7
        refine Ev.if_eq (tgt := 92) (q := 79) dX12_readLiftFlag_76 (by decide) rfl (fun h8 => ?_) (fun h8 => ?_)
        · skip
          have hn6 : ¬ t.1 = 6 := fun z => by have := (ey z).1; omega
          obtain ⟨-, rfl⟩ := en hn6
          refine Ev.iconst (q := 93) dX12_readLiftFlag_92 ki_0 rfl ?_
          refine rZ dX12_readLiftFlag_93 rfl (by decide) ?_
          have hun : lf1 tx N l t f = none := by unfold lf1; rw [if_neg hn3, if_neg hn4, if_neg hn5, if_neg hn6]
          rw [hun]
          exact ⟨⟨rfl, rfl⟩, Fr.rf _ _⟩
        · skip
          have hk6 : t.1 = 6 := Classical.byContradiction fun z => by have := (en z).1; omega
          obtain ⟨-, x9, f9⟩ := ey hk6
          have hX9 := hX.q f9
          have hO9 := (tOK_nx hO).1
          rw [lf1_6 hk6]
          refine Ev.aload_n (q := 80) dX12_readLiftFlag_79 rfl rfl ?_
          refine gR (q := 83) dX12_readLiftFlag_80 gfX12_24 k211 r211_4 rfl rfl ?_
          refine Ev.bipush (q := 85) dX12_readLiftFlag_83 kb_69 rfl ?_
          refine Ev.iload_n (q := 86) dX12_readLiftFlag_85 rfl rfl ?_
          refine Ev.iadd (q := 87) dX12_readLiftFlag_86 rfl ?_
          refine Ev.iconst (q := 88) dX12_readLiftFlag_87 ki_0 rfl ?_
          refine sI (q := 89) (k := 69 + l) dX12_readLiftFlag_88 k215 (by first | rfl | omega | (simp (disch := omega) only [w32_of]; omega)) (by omega) rfl ?_
          refine Ev.goto (q := 94) dX12_readLiftFlag_89 (by decide) ?_
          refine Ev.aload_n (q := 95) dX12_readLiftFlag_94 rfl rfl ?_
          refine gI (q := 98) dX12_readLiftFlag_95 gfX12_102 k211 rfl rfl ?_
          rw [(x9.up _ _).1]
          refine Ev.if_ne (tgt := 105) (q := 101) dX12_readLiftFlag_98 (by decide) rfl (fun h61 => ?_) (fun h61 => ?_)
          · skip
            omega
          · skip
            refine Ev.iconst (q := 102) dX12_readLiftFlag_101 ki_1 rfl ?_
            refine Ev.goto (q := 106) dX12_readLiftFlag_102 (by decide) ?_
            refine rZ dX12_readLiftFlag_106 rfl (by decide) ?_
            exact ⟨⟨rfl, x9.up _ _⟩, f9.up rfl⟩
      · skip
        have hk5 : t.1 = 5 := Classical.byContradiction fun z => by have := (en z).1; omega
        obtain ⟨-, x9, f9⟩ := ey hk5
        have hX9 := hX.q f9
        have hO9 := (tOK_nx hO).1
        rw [lf1_5 hk5]
        refine Ev.aload_n (q := 63) dX12_readLiftFlag_62 rfl rfl ?_
        refine Ev.iload_n (q := 64) dX12_readLiftFlag_63 rfl rfl ?_
        refine cV1v (q := 67) (d' := d + 7) dX12_readLiftFlag_64 mlX12_150 moX12_readLit mvX12_readLit k211 rfl rfl rfl (Nat.le_refl _) rfl rfl rfl (p_X12_readLit tx N (nxS tx N t) f l hN hX9 hO9 x9 hR hl) (fun r9 m9 e9 => ?_)
        obtain ⟨M8, rfl⟩ : ∃ M8, M8 = m9 := ⟨_, rfl⟩
        obtain ⟨x8, f8⟩ := e9
        cases hx : litR tx N (f (60 + l)) (f 1 - 1) (N + 1) 0 (nxS tx N t) with
        | inl e =>
          rw [hx] at x8
          have x8 : BDm M8 e := x8
          refine Ev.goto (q := 94) dX12_readLiftFlag_67 (by decide) ?_
          refine Ev.aload_n (q := 95) dX12_readLiftFlag_94 rfl rfl ?_
          refine gI (q := 98) dX12_readLiftFlag_95 gfX12_102 k211 rfl rfl ?_
          rw [x8.1]
          refine Ev.if_ne (tgt := 105) (q := 101) dX12_readLiftFlag_98 (by decide) rfl (fun h61 => ?_) (fun h61 => ?_)
          · skip
            refine Ev.iconst (q := 106) dX12_readLiftFlag_105 ki_0 rfl ?_
            refine rZ dX12_readLiftFlag_106 rfl (by decide) ?_
            exact ⟨⟨rfl, x8⟩, f9.tr f8⟩
          · skip
            exact absurd (by assumption) x8.2.1
        | inr a =>
          rw [hx] at x8
          have x8 : OKm M8 a.2 (upg f (66 + l) (a.1 : Int)) := x8
          refine Ev.goto (q := 94) dX12_readLiftFlag_67 (by decide) ?_
          refine Ev.aload_n (q := 95) dX12_readLiftFlag_94 rfl rfl ?_
          refine gI (q := 98) dX12_readLiftFlag_95 gfX12_102 k211 rfl rfl ?_
          rw [x8.1]
          refine Ev.if_ne (tgt := 105) (q := 101) dX12_readLiftFlag_98 (by decide) rfl (fun h61 => ?_) (fun h61 => ?_)
          · skip
            omega
          · skip
            refine Ev.iconst (q := 102) dX12_readLiftFlag_101 ki_1 rfl ?_
            refine Ev.goto (q := 106) dX12_readLiftFlag_102 (by decide) ?_
            refine rZ dX12_readLiftFlag_106 rfl (by decide) ?_
            exact ⟨⟨rfl, x8⟩, f9.tr f8⟩
    · skip
      have hk4 : t.1 = 4 := Classical.byContradiction fun z => by have := (en z).1; omega
      obtain ⟨-, x9, f9⟩ := ey hk4
      have hX9 := hX.q f9
      have hO9 := (tOK_nx hO).1
      rw [lf1_4 hk4]
      refine Ev.aload_n (q := 36) dX12_readLiftFlag_35 rfl rfl ?_
      refine gR (q := 39) dX12_readLiftFlag_36 gfX12_24 k211 r211_4 rfl rfl ?_
      refine Ev.bipush (q := 41) dX12_readLiftFlag_39 kb_25 rfl ?_
      refine Ev.iload_n (q := 42) dX12_readLiftFlag_41 rfl rfl ?_
      refine Ev.iadd (q := 43) dX12_readLiftFlag_42 rfl ?_
      refine Ev.aload_n (q := 44) dX12_readLiftFlag_43 rfl rfl ?_
      refine Ev.iconst (q := 45) dX12_readLiftFlag_44 ki_0 rfl ?_
      refine Ev.bipush (q := 47) dX12_readLiftFlag_45 kb_99 rfl ?_
      refine cV2i (q := 50) (d' := d + 7) dX12_readLiftFlag_47 mlX12_146 moX12_takes mvX12_takes k211 rfl rfl rfl (Nat.le_refl _) rfl rfl rfl (p_X12_takes tx N (nxS tx N t) f 0 99 hN hX9 hO9 x9) (fun r10 m10 e10 => ?_)
      obtain ⟨M8, rfl⟩ : ∃ M8, M8 = m10 := ⟨_, rfl⟩
      obtain ⟨x8, f8⟩ := e10
      cases hx : nuS tx N 0 99 (nxS tx N t) with
      | inl e =>
        rw [hx] at x8
        have x8 : BDm M8 e := x8
        refine sI (q := 51) (k := 25 + l) dX12_readLiftFlag_50 k215 (by first | rfl | omega | (simp (disch := omega) only [w32_of]; omega)) (by omega) rfl ?_
        refine Ev.goto (q := 94) dX12_readLiftFlag_51 (by decide) ?_
        refine Ev.aload_n (q := 95) dX12_readLiftFlag_94 rfl rfl ?_
        refine gI (q := 98) dX12_readLiftFlag_95 gfX12_102 k211 rfl rfl ?_
        rw [((x8).up _ _).1]
        refine Ev.if_ne (tgt := 105) (q := 101) dX12_readLiftFlag_98 (by decide) rfl (fun h61 => ?_) (fun h61 => ?_)
        · skip
          refine Ev.iconst (q := 106) dX12_readLiftFlag_105 ki_0 rfl ?_
          refine rZ dX12_readLiftFlag_106 rfl (by decide) ?_
          exact ⟨⟨rfl, (x8).up _ _⟩, (f9.tr f8).up rfl⟩
        · skip
          exact absurd (by assumption) x8.2.1
      | inr a =>
        rw [hx] at x8
        obtain ⟨xr, x8⟩ : _ = a.1 ∧ OKm M8 a.2 f := x8
        obtain ⟨n1, n2, n3, n4, n5⟩ := nu_inv hO9 hx
        rw [xr]
        refine sI (q := 51) (k := 25 + l) dX12_readLiftFlag_50 k215 (by first | rfl | omega | (simp (disch := omega) only [w32_of]; omega)) (by omega) rfl ?_
        refine Ev.goto (q := 94) dX12_readLiftFlag_51 (by decide) ?_
        refine Ev.aload_n (q := 95) dX12_readLiftFlag_94 rfl rfl ?_
        refine gI (q := 98) dX12_readLiftFlag_95 gfX12_102 k211 rfl rfl ?_
        rw [((x8).up _ _).1]
        refine Ev.if_ne (tgt := 105) (q := 101) dX12_readLiftFlag_98 (by decide) rfl (fun h61 => ?_) (fun h61 => ?_)
        · skip
          omega
        · skip
          refine Ev.iconst (q := 102) dX12_readLiftFlag_101 ki_1 rfl ?_
          refine Ev.goto (q := 106) dX12_readLiftFlag_102 (by decide) ?_
          refine rZ dX12_readLiftFlag_106 rfl (by decide) ?_
          exact ⟨⟨rfl, (x8).up _ _⟩, (f9.tr f8).up rfl⟩
  · skip
    have hk3 : t.1 = 3 := Classical.byContradiction fun z => by have := (en z).1; omega
    obtain ⟨-, x9, f9⟩ := ey hk3
    have hX9 := hX.q f9
    have hO9 := (tOK_nx hO).1
    rw [lf1_3 hk3]
    refine Ev.aload_n (q := 9) dX12_readLiftFlag_8 rfl rfl ?_
    refine gR (q := 12) dX12_readLiftFlag_9 gfX12_24 k211 r211_4 rfl rfl ?_
    refine Ev.bipush (q := 14) dX12_readLiftFlag_12 kb_22 rfl ?_
    refine Ev.iload_n (q := 15) dX12_readLiftFlag_14 rfl rfl ?_
    refine Ev.iadd (q := 16) dX12_readLiftFlag_15 rfl ?_
    refine Ev.aload_n (q := 17) dX12_readLiftFlag_16 rfl rfl ?_
    refine Ev.iconst (q := 18) dX12_readLiftFlag_17 ki_1 rfl ?_
    refine Ev.bipush (q := 20) dX12_readLiftFlag_18 kb_60 rfl ?_
    refine cV2i (q := 23) (d' := d + 7) dX12_readLiftFlag_20 mlX12_146 moX12_takes mvX12_takes k211 rfl rfl rfl (Nat.le_refl _) rfl rfl rfl (p_X12_takes tx N (nxS tx N t) f 1 60 hN hX9 hO9 x9) (fun r11 m11 e11 => ?_)
    obtain ⟨M8, rfl⟩ : ∃ M8, M8 = m11 := ⟨_, rfl⟩
    obtain ⟨x8, f8⟩ := e11
    cases hx : nuS tx N 1 60 (nxS tx N t) with
    | inl e =>
      rw [hx] at x8
      have x8 : BDm M8 e := x8
      refine sI (q := 24) (k := 22 + l) dX12_readLiftFlag_23 k215 (by first | rfl | omega | (simp (disch := omega) only [w32_of]; omega)) (by omega) rfl ?_
      refine Ev.goto (q := 94) dX12_readLiftFlag_24 (by decide) ?_
      refine Ev.aload_n (q := 95) dX12_readLiftFlag_94 rfl rfl ?_
      refine gI (q := 98) dX12_readLiftFlag_95 gfX12_102 k211 rfl rfl ?_
      rw [((x8).up _ _).1]
      refine Ev.if_ne (tgt := 105) (q := 101) dX12_readLiftFlag_98 (by decide) rfl (fun h61 => ?_) (fun h61 => ?_)
      · skip
        refine Ev.iconst (q := 106) dX12_readLiftFlag_105 ki_0 rfl ?_
        refine rZ dX12_readLiftFlag_106 rfl (by decide) ?_
        exact ⟨⟨rfl, (x8).up _ _⟩, (f9.tr f8).up rfl⟩
      · skip
        exact absurd (by assumption) x8.2.1
    | inr a =>
      rw [hx] at x8
      obtain ⟨xr, x8⟩ : _ = a.1 ∧ OKm M8 a.2 f := x8
      obtain ⟨n1, n2, n3, n4, n5⟩ := nu_inv hO9 hx
      rw [xr]
      refine sI (q := 24) (k := 22 + l) dX12_readLiftFlag_23 k215 (by first | rfl | omega | (simp (disch := omega) only [w32_of]; omega)) (by omega) rfl ?_
      refine Ev.goto (q := 94) dX12_readLiftFlag_24 (by decide) ?_
      refine Ev.aload_n (q := 95) dX12_readLiftFlag_94 rfl rfl ?_
      refine gI (q := 98) dX12_readLiftFlag_95 gfX12_102 k211 rfl rfl ?_
      rw [((x8).up _ _).1]
      refine Ev.if_ne (tgt := 105) (q := 101) dX12_readLiftFlag_98 (by decide) rfl (fun h61 => ?_) (fun h61 => ?_)
      · skip
        omega
      · skip
        refine Ev.iconst (q := 102) dX12_readLiftFlag_101 ki_1 rfl ?_
        refine Ev.goto (q := 106) dX12_readLiftFlag_102 (by decide) ?_
        refine rZ dX12_readLiftFlag_106 rfl (by decide) ?_
        exact ⟨⟨rfl, (x8).up _ _⟩, (f9.tr f8).up rfl⟩
