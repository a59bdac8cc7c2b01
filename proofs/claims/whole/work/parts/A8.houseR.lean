/-! ===== what is read is a house ===== -/
def LfOk (g : Row) (l : Nat) : Prop := (0 ≤ g (60 + l) ∧ g (60 + l) < g 1) ∧ (0 ≤ g (66 + l) ∧ (g (66 + l)).toNat < 2 ^ (g 1).toNat ∧ (g (66 + l)).toNat.testBit (g (60 + l)).toNat = false) ∧ (g (69 + l) = 0 ∨ g (69 + l) = 1) ∧ (1 ≤ g (22 + l) ∧ g (22 + l) ≤ 60) ∧ (0 ≤ g (25 + l) ∧ g (25 + l) ≤ 99)
def PsOk (g : Row) (p : Nat) : Prop := (0 ≤ g (28 + p) ∧ g (28 + p) < g 1) ∧ (0 ≤ g (36 + p) ∧ g (36 + p) ≤ 99) ∧ (0 ≤ g (44 + p) ∧ g (44 + p) ≤ 99) ∧ (1 ≤ g (52 + p) ∧ g (52 + p) ≤ 99) ∧ (0 ≤ g (72 + p) ∧ g (72 + p) < g 1) ∧ (g (88 + p) = -1 ∨ (0 ≤ g (88 + p) ∧ g (88 + p) < g 2 ∧ g (72 + p) = g (60 + (g (88 + p)).toNat)))
theorem LfOk.eq {f f' : Row} {l : Nat} (h : LfOk f l) (e1 : f' 1 = f 1) (e2 : f' (60 + l) = f (60 + l)) (e3 : f' (66 + l) = f (66 + l)) (e4 : f' (69 + l) = f (69 + l)) (e5 : f' (22 + l) = f (22 + l)) (e6 : f' (25 + l) = f (25 + l)) : LfOk f' l := by
  unfold LfOk
  rw [e1, e2, e3, e4, e5, e6]
  exact h
theorem PsOk.eq {f f' : Row} {p : Nat} (h : PsOk f p) (e1 : f' 1 = f 1) (e2 : f 2 ≤ f' 2) (e : ∀ j, j = 28 + p ∨ j = 36 + p ∨ j = 44 + p ∨ j = 52 + p ∨ j = 72 + p ∨ j = 88 + p → f' j = f j) (e3 : ∀ l : Nat, (l : Int) < f 2 → f' (60 + l) = f (60 + l)) : PsOk f' p := by
  obtain ⟨h1, h2, h3, h4, h5, h6⟩ := h
  unfold PsOk
  rw [e1, e (28 + p) (by omega), e (36 + p) (by omega), e (44 + p) (by omega), e (52 + p) (by omega), e (72 + p) (by omega), e (88 + p) (by omega)]
  refine ⟨h1, h2, h3, h4, h5, ?_⟩
  rcases h6 with z | ⟨z1, z2, z3⟩
  · exact Or.inl z
  · exact Or.inr ⟨z1, by omega, by rw [e3 _ (by omega)]; exact z3⟩
theorem nu_v {tx : Nat → Int} {N : Nat} {lo hi : Int} {t : Tok} {a : Int × Tok} (h : nuS tx N lo hi t = .inr a) : a.1 = t.2.2.2 := by
  unfold nuS at h
  split at h
  · split at h
    · cases h; rfl
    · cases h
  · cases h
theorem lit_ok {tx : Nat → Int} {N F : Nat} {own : Int} (ho : 0 ≤ own) : ∀ (n s : Nat) (t : Tok) (b : Nat × Tok), tOK tx N t → N - t.2.1 + 1 ≤ n → s < 2 ^ F → s.testBit own.toNat = false → litR tx N own ((F : Int) - 1) n s t = .inr b → b.1 < 2 ^ F ∧ b.1.testBit own.toNat = false := by
  intro n
  induction n with
  | zero => intro s t b _ hn; omega
  | succ n ih =>
    intro s t b hO hn h1 h2 h
    by_cases hw : t.1 = 23 ∧ t.2.2.2 = own
    · rw [litR_own hw] at h; cases h
    · cases hx : nuS tx N 0 ((F : Int) - 1) t with
      | inl e => rw [litR_el hw hx] at h; cases h
      | inr c =>
        obtain ⟨n1, n2, n3, n4, n5⟩ := nu_inv hO hx
        have hv := nu_v hx
        have hle := tO_le n4
        have q1 : s ||| 2 ^ c.1.toNat < 2 ^ F := Nat.or_lt_two_pow h1 (Nat.pow_lt_pow_right (by decide) (by omega))
        have q2 : (s ||| 2 ^ c.1.toNat).testBit own.toNat = false := by
          rw [Nat.testBit_or, h2, Nat.testBit_two_pow]
          have : ¬ c.1.toNat = own.toNat := fun z => hw ⟨n1, by omega⟩
          simp [this]
        rw [litR_r hw hx] at h
        split at h
        · exact ih _ _ _ n4 (by omega) q1 q2 h
        · cases h; exact ⟨q1, q2⟩
theorem lf1_h {tx : Nat → Int} {N l : Nat} {t : Tok} {f : Row} {a : Tok × Row} (hO : tOK tx N t) (hR : RI f) (hl : l < 3) (hk : LfOk f l) (h : lf1 tx N l t f = some (.inr a)) : LfOk a.2 l ∧ ∀ j, j ≠ 22 + l → j ≠ 25 + l → j ≠ 66 + l → j ≠ 69 + l → a.2 j = f j := by
  obtain ⟨k1, k2, k3, k4, k5⟩ := hk
  have hO1 := (tOK_nx hO).1
  have hR1 := hR.1
  unfold lf1 at h
  repeat' split at h
  all_goals first | (cases h; done) | skip
  all_goals injection h with h
  · obtain ⟨b, h1, h⟩ := bE_inv h
    have n2 := (nu_inv hO1 h1).2.1
    cases h
    refine ⟨?_, fun j z1 z2 z3 z4 => upg_ne _ _ (by omega)⟩
    unfold LfOk; dsimp only
    rw [upg_ne _ _ (by omega), upg_ne _ _ (by omega), upg_ne _ _ (by omega), upg_ne _ _ (by omega), upg_eq, upg_ne _ _ (by omega)]
    exact ⟨k1, k2, k3, n2, k5⟩
  · obtain ⟨b, h1, h⟩ := bE_inv h
    have n2 := (nu_inv hO1 h1).2.1
    cases h
    refine ⟨?_, fun j z1 z2 z3 z4 => upg_ne _ _ (by omega)⟩
    unfold LfOk; dsimp only
    rw [upg_ne _ _ (by omega), upg_ne _ _ (by omega), upg_ne _ _ (by omega), upg_ne _ _ (by omega), upg_ne _ _ (by omega), upg_eq]
    exact ⟨k1, k2, k3, k4, n2⟩
  · obtain ⟨b, h1, h⟩ := bE_inv h
    have hle := tO_le hO1
    obtain ⟨F, hF⟩ : ∃ F : Nat, f 1 = F := ⟨(f 1).toNat, by omega⟩
    rw [hF] at h1
    obtain ⟨q1, q2⟩ := lit_ok (F := F) k1.1 (N + 1) 0 _ b hO1 (by omega) (Nat.two_pow_pos F) (Nat.zero_testBit _) h1
    cases h
    refine ⟨?_, fun j z1 z2 z3 z4 => upg_ne _ _ (by omega)⟩
    unfold LfOk; dsimp only
    rw [upg_ne _ _ (by omega), upg_ne _ _ (by omega), upg_eq, upg_ne _ _ (by omega), upg_ne _ _ (by omega), upg_ne _ _ (by omega), hF, Int.toNat_natCast, Int.toNat_natCast]
    rw [hF] at k1
    exact ⟨k1, ⟨by omega, q1, q2⟩, k3, k4, k5⟩
  · cases h
    refine ⟨?_, fun j z1 z2 z3 z4 => upg_ne _ _ (by omega)⟩
    unfold LfOk; dsimp only
    rw [upg_ne _ _ (by omega), upg_ne _ _ (by omega), upg_ne _ _ (by omega), upg_eq, upg_ne _ _ (by omega), upg_ne _ _ (by omega)]
    exact ⟨k1, k2, Or.inl rfl, k4, k5⟩
theorem lfR_h {tx : Nat → Int} {N l : Nat} (hl : l < 3) : ∀ (n : Nat) (t : Tok) (f : Row) (b : Tok × Row), tOK tx N t → RI f → LfOk f l → lfR tx N l n t f = .inr b → LfOk b.2 l ∧ ∀ j, j ≠ 22 + l → j ≠ 25 + l → j ≠ 66 + l → j ≠ 69 + l → b.2 j = f j := by
  intro n
  induction n with
  | zero => intro t f b hO hR hk h; unfold lfR at h; cases h; exact ⟨hk, fun j _ _ _ _ => rfl⟩
  | succ n ih =>
    intro t f b hO hR hk h
    rw [lfR_1] at h
    cases hx : lf1 tx N l t f with
    | none => rw [hx] at h; cases h; exact ⟨hk, fun j _ _ _ _ => rfl⟩
    | some x =>
      rw [hx] at h
      cases x with
      | inl e => cases h
      | inr a =>
        obtain ⟨q1, q2⟩ := lf1_h hO hR hl hk hx
        have o := lf1_ok hO hR hx
        obtain ⟨i1, i2⟩ := ih a.1 a.2 b o.1 o.2.2.1 q1 h
        exact ⟨i1, fun j z1 z2 z3 z4 => by rw [i2 j z1 z2 z3 z4, q2 j z1 z2 z3 z4]⟩
theorem pf1_h {tx : Nat → Int} {N p : Nat} {t : Tok} {f : Row} {a : Tok × Row} (hO : tOK tx N t) (hR : RI f) (hL : ∀ l : Nat, (l : Int) < f 2 → LfOk f l) (hp : p < 8) (hk : PsOk f p) (h : pf1 tx N p t f = some (.inr a)) : PsOk a.2 p ∧ ∀ j, j ≠ 36 + p → j ≠ 44 + p → j ≠ 52 + p → j ≠ 72 + p → j ≠ 88 + p → a.2 j = f j := by
  obtain ⟨k1, k2, k3, k4, k5, k6⟩ := hk
  have hO1 := (tOK_nx hO).1
  obtain ⟨hR1, hR2, hR3⟩ := hR
  unfold pf1 at h
  repeat' split at h
  all_goals first | (cases h; done) | skip
  all_goals
    injection h with h
    obtain ⟨b, h1, h⟩ := bE_inv h
    have n2 := (nu_inv hO1 h1).2.1
    cases h
  · refine ⟨?_, fun j z1 z2 z3 z4 z5 => by dsimp only; rw [upg_ne _ _ (by omega), upg_ne _ _ (by omega)]⟩
    unfold PsOk; dsimp only
    simp (disch := omega) only [upg_ne, upg_eq]
    exact ⟨k1, k2, k3, k4, by omega, Or.inl trivial⟩
  · have hb := (hL b.1.toNat (by omega)).1
    refine ⟨?_, fun j z1 z2 z3 z4 z5 => by dsimp only; rw [upg_ne _ _ (by omega), upg_ne _ _ (by omega)]⟩
    unfold PsOk; dsimp only
    simp (disch := omega) only [upg_ne, upg_eq]
    exact ⟨k1, k2, k3, k4, hb, Or.inr ⟨by omega, by omega, trivial⟩⟩
  · refine ⟨?_, fun j z1 z2 z3 z4 z5 => upg_ne _ _ (by omega)⟩
    unfold PsOk; dsimp only
    simp (disch := omega) only [upg_ne, upg_eq]
    refine ⟨k1, n2, k3, k4, k5, ?_⟩
    exact k6
  · refine ⟨?_, fun j z1 z2 z3 z4 z5 => upg_ne _ _ (by omega)⟩
    unfold PsOk; dsimp only
    simp (disch := omega) only [upg_ne, upg_eq]
    refine ⟨k1, k2, n2, k4, k5, ?_⟩
    exact k6
  · refine ⟨?_, fun j z1 z2 z3 z4 z5 => upg_ne _ _ (by omega)⟩
    unfold PsOk; dsimp only
    simp (disch := omega) only [upg_ne, upg_eq]
    refine ⟨k1, k2, k3, n2, k5, ?_⟩
    exact k6
theorem pfR_h {tx : Nat → Int} {N p : Nat} (hp : p < 8) : ∀ (n : Nat) (t : Tok) (f : Row) (b : Tok × Row), tOK tx N t → RI f → (∀ l : Nat, (l : Int) < f 2 → LfOk f l) → PsOk f p → pfR tx N p n t f = .inr b → PsOk b.2 p ∧ ∀ j, j ≠ 36 + p → j ≠ 44 + p → j ≠ 52 + p → j ≠ 72 + p → j ≠ 88 + p → b.2 j = f j := by
  intro n
  induction n with
  | zero => intro t f b hO hR hL hk h; unfold pfR at h; cases h; exact ⟨hk, fun j _ _ _ _ _ => rfl⟩
  | succ n ih =>
    intro t f b hO hR hL hk h
    rw [pfR_1] at h
    cases hx : pf1 tx N p t f with
    | none => rw [hx] at h; cases h; exact ⟨hk, fun j _ _ _ _ _ => rfl⟩
    | some x =>
      rw [hx] at h
      cases x with
      | inl e => cases h
      | inr a =>
        obtain ⟨q1, q2⟩ := pf1_h hO hR hL hp hk hx
        have o := pf1_ok hO hR hx
        have hR2 := hR.2.1
        obtain ⟨i1, i2⟩ := ih a.1 a.2 b o.1 o.2.2.1 (fun l hl => by
          rw [q2 2 (by omega) (by omega) (by omega) (by omega) (by omega)] at hl
          exact (hL l hl).eq (q2 _ (by omega) (by omega) (by omega) (by omega) (by omega)) (q2 _ (by omega) (by omega) (by omega) (by omega) (by omega)) (q2 _ (by omega) (by omega) (by omega) (by omega) (by omega)) (q2 _ (by omega) (by omega) (by omega) (by omega) (by omega)) (q2 _ (by omega) (by omega) (by omega) (by omega) (by omega)) (q2 _ (by omega) (by omega) (by omega) (by omega) (by omega))) q1 h
        exact ⟨i1, fun j z1 z2 z3 z4 z5 => by rw [i2 j z1 z2 z3 z4 z5, q2 j z1 z2 z3 z4 z5]⟩
/-- the row as it stands between lines -/
def RH (f : Row) : Prop := RI f ∧ (∀ l : Nat, (l : Int) < f 2 → LfOk f l) ∧ (∀ p : Nat, (p : Int) < f 3 → PsOk f p) ∧ (∀ j : Nat, j < 12 → 0 ≤ f (10 + j) ∧ f (10 + j) ≤ 99) ∧ ZI f ∧ LW f
theorem RH.hi {f : Row} (h : RH f) (h9 : f 457 ≤ 900) : HI f := ⟨h.1.1, h.1.2.1, h.1.2.2, (h.2.2.2.2.2.lawOk h9 (by decide)).1, (h.2.2.2.2.2.lawOk h9 (by decide)).1, h.2.1, h.2.2.1, h.2.2.2.1⟩
theorem RH.li {tx : Nat → Int} {N : Nat} {t : Tok} {f : Row} {a : Tok × Row} (hO : tOK tx N t) (h : RH f) (he : liS tx N t f = .inr a) : RH a.2 := by
  obtain ⟨hR, h1, h2, h3, h4, h5⟩ := h
  obtain ⟨hR1, hR2, hR3⟩ := hR
  have hR : RI f := ⟨hR1, hR2, hR3⟩
  unfold liS at he
  split at he
  · cases he
  · rename_i hf
    obtain ⟨t1, e1, he⟩ := bE_inv he
    obtain ⟨b, e2, he⟩ := bE_inv he
    obtain ⟨c, e3, he⟩ := bE_inv he
    obtain ⟨-, -, o1, -⟩ := ea_inv (tOK_nx hO).1 (by decide) e1
    obtain ⟨-, n2, -, n4, -⟩ := nu_inv o1 e2
    obtain ⟨l, hl⟩ : ∃ l : Nat, f 2 = l := ⟨(f 2).toNat, by omega⟩
    rw [hl, Int.toNat_natCast] at e3
    have hz := (h4.1 l (by omega)).2 (by omega)
    have hk0 : LfOk (upg (upg (upg (upg f (60 + l) b.1) (22 + l) 3) (25 + l) 8) (69 + l) 1) l := by
      unfold LfOk
      simp (disch := omega) only [upg_ne, upg_eq]
      rw [hz]
      exact ⟨by omega, ⟨by omega, Nat.two_pow_pos _, Nat.zero_testBit _⟩, Or.inr trivial, by omega, by omega⟩
    obtain ⟨q1, q2⟩ := lfR_h (by omega) (N + 1) b.2 _ c n4 ((((hR.up (by omega) _).up (by omega) _).up (by omega) _).up (by omega) _) hk0 e3
    have ke : ∀ j, j ≠ 60 + l → j ≠ 22 + l → j ≠ 25 + l → j ≠ 66 + l → j ≠ 69 + l → c.2 j = f j := fun j z0 z1 z2 z3 z4 => by rw [q2 j z1 z2 z3 z4, upg_ne _ _ (by omega), upg_ne _ _ (by omega), upg_ne _ _ (by omega), upg_ne _ _ (by omega)]
    cases he
    have e2' : c.2 2 = l := by rw [ke 2 (by omega) (by omega) (by omega) (by omega) (by omega), hl]
    have ka : ∀ j, j ≠ 2 → j ≠ 60 + l → j ≠ 22 + l → j ≠ 25 + l → j ≠ 66 + l → j ≠ 69 + l → upg c.2 2 (c.2 2 + 1) j = f j := fun j z z0 z1 z2 z3 z4 => by rw [upg_ne _ _ z]; exact ke j z0 z1 z2 z3 z4
    have k2 : upg c.2 2 (c.2 2 + 1) 2 = (l : Int) + 1 := by rw [upg_eq, e2']
    dsimp only
    refine ⟨⟨?_, ?_, ?_⟩, fun i hi => ?_, fun p hp => ?_, fun j hj => ?_, ⟨fun i hi => ?_, fun p hp => ?_⟩, h5.keep (fun j hj => ka j (by omega) (by omega) (by omega) (by omega) (by omega) (by omega))⟩
    · rw [ka 1 (by omega) (by omega) (by omega) (by omega) (by omega) (by omega)]; exact hR1
    · rw [k2]; omega
    · rw [ka 3 (by omega) (by omega) (by omega) (by omega) (by omega) (by omega)]; exact hR3
    · rw [k2] at hi
      by_cases ei : i = l
      · subst ei
        exact q1.eq (upg_ne _ _ (by omega)) (upg_ne _ _ (by omega)) (upg_ne _ _ (by omega)) (upg_ne _ _ (by omega)) (upg_ne _ _ (by omega)) (upg_ne _ _ (by omega))
      · exact (h1 i (by omega)).eq (ka _ (by omega) (by omega) (by omega) (by omega) (by omega) (by omega)) (ka _ (by omega) (by omega) (by omega) (by omega) (by omega) (by omega)) (ka _ (by omega) (by omega) (by omega) (by omega) (by omega) (by omega)) (ka _ (by omega) (by omega) (by omega) (by omega) (by omega) (by omega)) (ka _ (by omega) (by omega) (by omega) (by omega) (by omega) (by omega)) (ka _ (by omega) (by omega) (by omega) (by omega) (by omega) (by omega))
    · rw [ka 3 (by omega) (by omega) (by omega) (by omega) (by omega) (by omega)] at hp
      exact (h2 p hp).eq (ka _ (by omega) (by omega) (by omega) (by omega) (by omega) (by omega)) (by rw [k2]; omega) (fun j hj => ka _ (by omega) (by omega) (by omega) (by omega) (by omega) (by omega)) (fun i hi => ka _ (by omega) (by omega) (by omega) (by omega) (by omega) (by omega))
    · rw [ka _ (by omega) (by omega) (by omega) (by omega) (by omega) (by omega)]; exact h3 j hj
    · rw [ka (63 + i) (by omega) (by omega) (by omega) (by omega) (by omega) (by omega)]
      refine ⟨(h4.1 i hi).1, fun z => ?_⟩
      rw [k2] at z
      rw [ka (66 + i) (by omega) (by omega) (by omega) (by omega) (by omega) (by omega)]
      exact (h4.1 i hi).2 (by omega)
    · rw [ka (80 + p) (by omega) (by omega) (by omega) (by omega) (by omega) (by omega), ka 3 (by omega) (by omega) (by omega) (by omega) (by omega) (by omega), ka (36 + p) (by omega) (by omega) (by omega) (by omega) (by omega) (by omega), ka (44 + p) (by omega) (by omega) (by omega) (by omega) (by omega) (by omega)]
      exact h4.2 p hp
theorem RH.pe {tx : Nat → Int} {N : Nat} {t : Tok} {f : Row} {a : Tok × Row} (hO : tOK tx N t) (h : RH f) (he : peS tx N t f = .inr a) : RH a.2 := by
  obtain ⟨hR, h1, h2, h3, h4, h5⟩ := h
  obtain ⟨hR1, hR2, hR3⟩ := hR
  have hR : RI f := ⟨hR1, hR2, hR3⟩
  unfold peS at he
  split at he
  · cases he
  · rename_i hf
    obtain ⟨t1, e1, he⟩ := bE_inv he
    obtain ⟨b, e2, he⟩ := bE_inv he
    obtain ⟨c, e3, he⟩ := bE_inv he
    obtain ⟨-, -, o1, -⟩ := ea_inv (tOK_nx hO).1 (by decide) e1
    obtain ⟨-, n2, -, n4, -⟩ := nu_inv o1 e2
    obtain ⟨p, hp⟩ : ∃ p : Nat, f 3 = p := ⟨(f 3).toNat, by omega⟩
    rw [hp, Int.toNat_natCast] at e3
    obtain ⟨hz1, hz2⟩ := (h4.2 p (by omega)).2 (by omega)
    have hk0 : PsOk (upg (upg (upg (upg f (28 + p) b.1) (52 + p) 1) (72 + p) 0) (88 + p) (-1)) p := by
      unfold PsOk
      simp (disch := omega) only [upg_ne, upg_eq]
      rw [hz1, hz2]
      exact ⟨by omega, by omega, by omega, by omega, by omega, Or.inl trivial⟩
    obtain ⟨q1, q2⟩ := pfR_h (by omega) (N + 1) b.2 _ c n4 ((((hR.up (by omega) _).up (by omega) _).up (by omega) _).up (by omega) _) (fun l hl => by
      simp (disch := omega) only [upg_ne] at hl
      exact (h1 l hl).eq (by simp (disch := omega) only [upg_ne]) (by simp (disch := omega) only [upg_ne]) (by simp (disch := omega) only [upg_ne]) (by simp (disch := omega) only [upg_ne]) (by simp (disch := omega) only [upg_ne]) (by simp (disch := omega) only [upg_ne])) hk0 e3
    have ke : ∀ j, j ≠ 28 + p → j ≠ 36 + p → j ≠ 44 + p → j ≠ 52 + p → j ≠ 72 + p → j ≠ 88 + p → c.2 j = f j := fun j z0 z1 z2 z3 z4 z5 => by rw [q2 j z1 z2 z3 z4 z5, upg_ne _ _ (by omega), upg_ne _ _ (by omega), upg_ne _ _ (by omega), upg_ne _ _ (by omega)]
    cases he
    have e3' : c.2 3 = p := by rw [ke 3 (by omega) (by omega) (by omega) (by omega) (by omega) (by omega), hp]
    have ka : ∀ j, j ≠ 3 → j ≠ 28 + p → j ≠ 36 + p → j ≠ 44 + p → j ≠ 52 + p → j ≠ 72 + p → j ≠ 88 + p → upg c.2 3 (c.2 3 + 1) j = f j := fun j z z0 z1 z2 z3 z4 z5 => by rw [upg_ne _ _ z]; exact ke j z0 z1 z2 z3 z4 z5
    have k3 : upg c.2 3 (c.2 3 + 1) 3 = (p : Int) + 1 := by rw [upg_eq, e3']
    dsimp only
    refine ⟨⟨?_, ?_, ?_⟩, fun i hi => ?_, fun q hq => ?_, fun j hj => ?_, ⟨fun i hi => ?_, fun q hq => ?_⟩, h5.keep (fun j hj => ka j (by omega) (by omega) (by omega) (by omega) (by omega) (by omega) (by omega))⟩
    · rw [ka 1 (by omega) (by omega) (by omega) (by omega) (by omega) (by omega) (by omega)]; exact hR1
    · rw [ka 2 (by omega) (by omega) (by omega) (by omega) (by omega) (by omega) (by omega)]; exact hR2
    · rw [k3]; omega
    · rw [ka 2 (by omega) (by omega) (by omega) (by omega) (by omega) (by omega) (by omega)] at hi
      exact (h1 i hi).eq (ka _ (by omega) (by omega) (by omega) (by omega) (by omega) (by omega) (by omega)) (ka _ (by omega) (by omega) (by omega) (by omega) (by omega) (by omega) (by omega)) (ka _ (by omega) (by omega) (by omega) (by omega) (by omega) (by omega) (by omega)) (ka _ (by omega) (by omega) (by omega) (by omega) (by omega) (by omega) (by omega)) (ka _ (by omega) (by omega) (by omega) (by omega) (by omega) (by omega) (by omega)) (ka _ (by omega) (by omega) (by omega) (by omega) (by omega) (by omega) (by omega))
    · rw [k3] at hq
      by_cases ei : q = p
      · subst ei
        exact q1.eq (upg_ne _ _ (by omega)) (by rw [upg_ne _ _ (by omega)]; exact Int.le_refl _) (fun j hj => upg_ne _ _ (by omega)) (fun i hi => upg_ne _ _ (by omega))
      · exact (h2 q (by omega)).eq (ka _ (by omega) (by omega) (by omega) (by omega) (by omega) (by omega) (by omega)) (by rw [ka 2 (by omega) (by omega) (by omega) (by omega) (by omega) (by omega) (by omega)]; exact Int.le_refl _) (fun j hj => ka _ (by omega) (by omega) (by omega) (by omega) (by omega) (by omega) (by omega)) (fun i hi => ka _ (by omega) (by omega) (by omega) (by omega) (by omega) (by omega) (by omega))
    · rw [ka _ (by omega) (by omega) (by omega) (by omega) (by omega) (by omega) (by omega)]; exact h3 j hj
    · rw [ka (63 + i) (by omega) (by omega) (by omega) (by omega) (by omega) (by omega) (by omega), ka 2 (by omega) (by omega) (by omega) (by omega) (by omega) (by omega) (by omega), ka (66 + i) (by omega) (by omega) (by omega) (by omega) (by omega) (by omega) (by omega)]
      exact h4.1 i hi
    · rw [ka (80 + q) (by omega) (by omega) (by omega) (by omega) (by omega) (by omega) (by omega)]
      refine ⟨(h4.2 q hq).1, fun z => ?_⟩
      rw [k3] at z
      rw [ka (36 + q) (by omega) (by omega) (by omega) (by omega) (by omega) (by omega) (by omega), ka (44 + q) (by omega) (by omega) (by omega) (by omega) (by omega) (by omega) (by omega)]
      exact (h4.2 q hq).2 (by omega)
theorem RH.keep {f f' : Row} (h : RH f) (e : ∀ j, (1 ≤ j ∧ j < 4) ∨ (10 ≤ j ∧ j < 457) → f' j = f j) (hw : LW f') : RH f' := by
  obtain ⟨hR, h1, h2, h3, h4, h5⟩ := h
  obtain ⟨hR1, hR2, hR3⟩ := hR
  refine ⟨⟨?_, ?_, ?_⟩, fun i hi => ?_, fun p hp => ?_, fun j hj => ?_, ⟨fun i hi => ?_, fun p hp => ?_⟩, hw⟩
  · rw [e 1 (by omega)]; exact hR1
  · rw [e 2 (by omega)]; exact hR2
  · rw [e 3 (by omega)]; exact hR3
  · rw [e 2 (by omega)] at hi
    exact (h1 i hi).eq (e _ (by omega)) (e _ (by omega)) (e _ (by omega)) (e _ (by omega)) (e _ (by omega)) (e _ (by omega))
  · rw [e 3 (by omega)] at hp
    exact (h2 p hp).eq (e _ (by omega)) (by rw [e 2 (by omega)]; exact Int.le_refl _) (fun j hj => e _ (by omega)) (fun i hi => e _ (by omega))
  · rw [e _ (by omega)]; exact h3 j hj
  · rw [e _ (by omega), e 2 (by omega), e (66 + i) (by omega)]; exact h4.1 i hi
  · rw [e _ (by omega), e 3 (by omega), e (36 + p) (by omega), e (44 + p) (by omega)]; exact h4.2 p hp
theorem RH.lw {tx : Nat → Int} {N law : Nat} {t : Tok} {f : Row} {a : Tok × Row} (hl : law < 2) (hO : tOK tx N t) (h : RH f) (h4 : 0 ≤ f 457) (he : lwS tx N law t f = .inr a) : RH a.2 := by
  unfold lwS at he
  obtain ⟨t1, e1, he⟩ := bE_inv he
  obtain ⟨b, e2, he⟩ := bE_inv he
  obtain ⟨-, -, o1, -⟩ := ea_inv (tOK_nx hO).1 (by decide) e1
  have := tO_le o1
  have hc := ps_ok hl (6 * N + 12) 0 0 t1 b (by omega) (by omega) o1 (by simp only [if_true]; omega) e2 0 32 (by decide)
  simp at hc
  cases he
  exact h.keep (fun j hj => lwW_o (law := law) (cs := b.1) h4 (by omega) (by omega) (by omega) (by omega) (by omega)) (LW.law h.2.2.2.2.2 hl h4 hc)
theorem RH.ca {tx : Nat → Int} {N : Nat} {t : Tok} {f : Row} {a : Tok × Row} (hO : tOK tx N t) (h : RH f) (he : caS tx N t f = .inr a) : RH a.2 := by
  obtain ⟨hR, h1, h2, h3, h4, h5⟩ := h
  obtain ⟨hR1, hR2, hR3⟩ := hR
  unfold caS at he
  obtain ⟨b, e1, he⟩ := bE_inv he
  obtain ⟨t1, e2, he⟩ := bE_inv he
  obtain ⟨c, e3, he⟩ := bE_inv he
  obtain ⟨-, n2, -, n4, -⟩ := nu_inv (tOK_nx hO).1 e1
  obtain ⟨-, -, o1, -⟩ := ea_inv n4 (by decide) e2
  obtain ⟨-, m2, -, m4, -⟩ := nu_inv o1 e3
  cases he
  dsimp only
  have ka : ∀ j, j < 10 ∨ 22 ≤ j → upg f (10 + b.1.toNat) c.1 j = f j := fun j hj => upg_ne _ _ (by omega)
  refine ⟨⟨?_, ?_, ?_⟩, fun i hi => ?_, fun p hp => ?_, fun j hj => ?_, ⟨fun i hi => ?_, fun p hp => ?_⟩, h5.keep (fun j hj => ka j (by omega))⟩
  · rw [ka 1 (by omega)]; exact hR1
  · rw [ka 2 (by omega)]; exact hR2
  · rw [ka 3 (by omega)]; exact hR3
  · rw [ka 2 (by omega)] at hi
    exact (h1 i hi).eq (ka _ (by omega)) (ka _ (by omega)) (ka _ (by omega)) (ka _ (by omega)) (ka _ (by omega)) (ka _ (by omega))
  · rw [ka 3 (by omega)] at hp
    exact (h2 p hp).eq (ka _ (by omega)) (by rw [ka 2 (by omega)]; exact Int.le_refl _) (fun j hj => ka _ (by omega)) (fun i hi => ka _ (by omega))
  · by_cases e : j = b.1.toNat
    · subst e; rw [upg_eq]; exact m2
    · rw [upg_ne _ _ (by omega)]; exact h3 j hj
  · rw [ka _ (by omega), ka 2 (by omega), ka (66 + i) (by omega)]; exact h4.1 i hi
  · rw [ka _ (by omega), ka 3 (by omega), ka (36 + p) (by omega), ka (44 + p) (by omega)]; exact h4.2 p hp
theorem RH.ln {tx : Nat → Int} {N : Nat} {t : Tok} {f : Row} {a : Tok × Row} (hO : tOK tx N t) (h : RH f) (h4 : 0 ≤ f 457) (he : lnS tx N t f = .inr a) : RH a.2 := by
  unfold lnS at he
  repeat' split at he
  · exact h.li hO he
  · exact h.pe hO he
  · exact h.lw (by decide) hO h4 he
  · exact h.lw (by decide) hO h4 he
  · exact h.ca hO he
  · cases he
theorem RH.en {f : Row} (h : RH f) : RH (upg f 0 (f 0 + 1)) := h.keep (fun j hj => upg_ne _ _ (by omega)) (h.2.2.2.2.2.keep (fun j hj => upg_ne _ _ (by omega)))
/-- what stands between the lines, in full -/
def LnH (tx : Nat → Int) (N : Nat) (t : Tok) (f : Row) : Prop := LnI tx N t f ∧ RH f ∧ tT tx N t
theorem LnH.nx {tx : Nat → Int} {N : Nat} {t : Tok} {f : Row} {a b : Tok × Row} (h : LnH tx N t f) (h1 : lnS tx N t f = .inr a) (h2 : enS tx N a.1 a.2 = .inr b) : LnH tx N b.1 b.2 ∧ t.2.1 + 1 ≤ b.1.2.1 := by
  obtain ⟨q1, q2⟩ := h.1.nx h1 h2
  have hT := ln_T h.2.2 h.2.1.1 h1
  have hH := h.2.1.ln h.1.1 h.1.2.2.1.1 h1
  unfold enS at h2
  obtain ⟨t1, e1, e2⟩ := bE_inv h2
  obtain ⟨-, e3, -, -⟩ := ea_T hT (by decide) e1
  cases e2
  exact ⟨⟨q1, hH.en, e3⟩, q2⟩
theorem RH.eq {f f' : Row} (h : RH f) (e : ∀ j, j < 1358 → f' j = f j) (h9 : f 457 ≤ 900) : RH f' := h.keep (fun j hj => e j (by omega)) (by
  intro law hl
  rw [e _ (by omega), e _ (by omega), e _ (by omega), e _ (by omega)]
  rcases h.2.2.2.2.2 law hl with z | ⟨z, fr, cs, e1, e2, e3, e4, e5⟩
  · exact Or.inl z
  · exact Or.inr ⟨z, fr, cs, e1, e2, e3, e4, fun k hk => by rw [e _ (by omega)]; exact e5 k hk⟩)
theorem RH_0 {f : Row} (h0 : ∀ j, j < 1358 → f j = f0R j) {x : Int} (hx : 2 ≤ x ∧ x ≤ 12) : RH (upg f 1 x) := by
  have e : ∀ j, j < 1358 → j ≠ 1 → upg f 1 x j = 0 := fun j hj h1 => by rw [upg_ne _ _ h1, h0 j hj]; unfold f0R; rw [if_neg h1]
  refine ⟨⟨?_, ?_, ?_⟩, fun i hi => ?_, fun p hp => ?_, fun j hj => ?_, ⟨fun i hi => ?_, fun p hp => ?_⟩, fun law hl => Or.inl (e _ (by omega) (by omega))⟩
  · rw [upg_eq]; exact hx
  · rw [e 2 (by omega) (by omega)]; omega
  · rw [e 3 (by omega) (by omega)]; omega
  · rw [e 2 (by omega) (by omega)] at hi; omega
  · rw [e 3 (by omega) (by omega)] at hp; omega
  · rw [e _ (by omega) (by omega)]; omega
  · exact ⟨e _ (by omega) (by omega), fun _ => e _ (by omega) (by omega)⟩
  · exact ⟨e _ (by omega) (by omega), fun _ => ⟨e _ (by omega) (by omega), e _ (by omega) (by omega)⟩⟩
