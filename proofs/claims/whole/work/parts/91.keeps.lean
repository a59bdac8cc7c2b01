/-! ===== what reading keeps ===== -/
theorem lf1_kp {tx : Nat → Int} {N l : Nat} {t : Tok} {f : Row} {a : Tok × Row} (hl : l < 3) (h : lf1 tx N l t f = some (.inr a)) : ∀ j, ¬ (22 ≤ j ∧ j < 28) → ¬ (66 ≤ j ∧ j < 72) → a.2 j = f j := by
  intro j h1 h2
  unfold lf1 at h
  repeat' split at h
  all_goals first | (cases h; done) | skip
  all_goals injection h with h
  · obtain ⟨b, -, h⟩ := bE_inv h; cases h; exact upg_ne _ _ (by omega)
  · obtain ⟨b, -, h⟩ := bE_inv h; cases h; exact upg_ne _ _ (by omega)
  · obtain ⟨b, -, h⟩ := bE_inv h; cases h; exact upg_ne _ _ (by omega)
  · cases h; exact upg_ne _ _ (by omega)
theorem pf1_kp {tx : Nat → Int} {N p : Nat} {t : Tok} {f : Row} {a : Tok × Row} (hp : p < 8) (h : pf1 tx N p t f = some (.inr a)) : ∀ j, ¬ (36 ≤ j ∧ j < 60) → ¬ (72 ≤ j ∧ j < 80) → ¬ (88 ≤ j ∧ j < 96) → a.2 j = f j := by
  intro j h1 h2 h3
  unfold pf1 at h
  repeat' split at h
  all_goals first | (cases h; done) | skip
  all_goals
    injection h with h
    obtain ⟨b, -, h⟩ := bE_inv h
    cases h
    first | exact upg_ne _ _ (by omega) | (show upg _ _ _ _ = _; rw [upg_ne _ _ (by omega), upg_ne _ _ (by omega)])
theorem lfR_ok {tx : Nat → Int} {N l : Nat} (hl : l < 3) : ∀ (n : Nat) (t : Tok) (f : Row) (b : Tok × Row), tOK tx N t → RI f → N - t.2.1 + 1 ≤ n → lfR tx N l n t f = .inr b → tOK tx N b.1 ∧ t.2.1 ≤ b.1.2.1 ∧ RI b.2 ∧ ∀ j, ¬ (22 ≤ j ∧ j < 28) → ¬ (66 ≤ j ∧ j < 72) → b.2 j = f j := by
  intro n
  induction n with
  | zero => intro t f b hO hR hn; omega
  | succ n ih =>
    intro t f b hO hR hn h
    rw [lfR_1] at h
    cases hx : lf1 tx N l t f with
    | none =>
      rw [hx] at h
      cases h
      exact ⟨hO, Nat.le_refl _, hR, fun _ _ _ => rfl⟩
    | some x =>
      rw [hx] at h
      cases x with
      | inl e => cases h
      | inr a =>
        obtain ⟨q1, q2, q3, q4, q5⟩ := lf1_ok hO hR hx
        have := tO_le q1
        obtain ⟨r1, r2, r3, r4⟩ := ih a.1 a.2 b q1 q3 (by omega) h
        exact ⟨r1, by omega, r3, fun j h1 h2 => by rw [r4 j h1 h2]; exact lf1_kp hl hx j h1 h2⟩
theorem pfR_ok {tx : Nat → Int} {N p : Nat} (hp : p < 8) : ∀ (n : Nat) (t : Tok) (f : Row) (b : Tok × Row), tOK tx N t → RI f → N - t.2.1 + 1 ≤ n → pfR tx N p n t f = .inr b → tOK tx N b.1 ∧ t.2.1 ≤ b.1.2.1 ∧ RI b.2 ∧ ∀ j, ¬ (36 ≤ j ∧ j < 60) → ¬ (72 ≤ j ∧ j < 80) → ¬ (88 ≤ j ∧ j < 96) → b.2 j = f j := by
  intro n
  induction n with
  | zero => intro t f b hO hR hn; omega
  | succ n ih =>
    intro t f b hO hR hn h
    rw [pfR_1] at h
    cases hx : pf1 tx N p t f with
    | none =>
      rw [hx] at h
      cases h
      exact ⟨hO, Nat.le_refl _, hR, fun _ _ _ _ => rfl⟩
    | some x =>
      rw [hx] at h
      cases x with
      | inl e => cases h
      | inr a =>
        obtain ⟨q1, q2, q3, q4, q5⟩ := pf1_ok hO hR hx
        have := tO_le q1
        obtain ⟨r1, r2, r3, r4⟩ := ih a.1 a.2 b q1 q3 (by omega) h
        exact ⟨r1, by omega, r3, fun j h1 h2 h3 => by rw [r4 j h1 h2 h3]; exact pf1_kp hp hx j h1 h2 h3⟩
theorem li_ok {tx : Nat → Int} {N : Nat} {t : Tok} {f : Row} {a : Tok × Row} (hO : tOK tx N t) (hR : RI f) (h24 : ¬ t.1 = 24) (h : liS tx N t f = .inr a) : tOK tx N a.1 ∧ t.2.1 + 1 ≤ a.1.2.1 ∧ RI a.2 ∧ a.2 457 = f 457 ∧ a.2 0 = f 0 := by
  unfold liS at h
  by_cases h3 : f 2 = 3
  · rw [if_pos h3] at h; cases h
  · rw [if_neg h3] at h
    obtain ⟨t1, h1, h⟩ := bE_inv h
    obtain ⟨b, h2, h⟩ := bE_inv h
    obtain ⟨c, h4, h⟩ := bE_inv h
    have hx := nx_lt hO h24
    obtain ⟨e1, e2, e3, e4⟩ := ea_inv (tOK_nx hO).1 (by decide) h1
    obtain ⟨n1, n2, n3, n4, n5⟩ := nu_inv e3 h2
    have := tO_le n4
    have hl : (f 2).toNat < 3 := by have := hR.2.1; omega
    obtain ⟨r1, r2, r3, r4⟩ := lfR_ok hl (N + 1) b.2 _ c n4 ((((hR.up (by omega) _).up (by omega) _).up (by omega) _).up (by omega) _) (by omega) h4
    have hk : ∀ j, ¬ (22 ≤ j ∧ j < 28) → ¬ (60 ≤ j ∧ j < 72) → c.2 j = f j := fun j q1 q2 => by rw [r4 j q1 (by omega), upg_ne _ _ (by omega), upg_ne _ _ (by omega), upg_ne _ _ (by omega), upg_ne _ _ (by omega)]
    cases h
    refine ⟨r1, by dsimp only; omega, ⟨?_, ?_, ?_⟩, ?_, ?_⟩
    · dsimp only; rw [upg_ne _ _ (by decide), hk 1 (by omega) (by omega)]; exact hR.1
    · dsimp only; rw [upg_eq, hk 2 (by omega) (by omega)]; have := hR.2.1; omega
    · dsimp only; rw [upg_ne _ _ (by decide), hk 3 (by omega) (by omega)]; exact hR.2.2
    · dsimp only; rw [upg_ne _ _ (by decide), hk 457 (by omega) (by omega)]
    · dsimp only; rw [upg_ne _ _ (by decide), hk 0 (by omega) (by omega)]
theorem pe_ok {tx : Nat → Int} {N : Nat} {t : Tok} {f : Row} {a : Tok × Row} (hO : tOK tx N t) (hR : RI f) (h24 : ¬ t.1 = 24) (h : peS tx N t f = .inr a) : tOK tx N a.1 ∧ t.2.1 + 1 ≤ a.1.2.1 ∧ RI a.2 ∧ a.2 457 = f 457 ∧ a.2 0 = f 0 := by
  unfold peS at h
  by_cases h3 : f 3 = 8
  · rw [if_pos h3] at h; cases h
  · rw [if_neg h3] at h
    obtain ⟨t1, h1, h⟩ := bE_inv h
    obtain ⟨b, h2, h⟩ := bE_inv h
    obtain ⟨c, h4, h⟩ := bE_inv h
    have hx := nx_lt hO h24
    obtain ⟨e1, e2, e3, e4⟩ := ea_inv (tOK_nx hO).1 (by decide) h1
    obtain ⟨n1, n2, n3, n4, n5⟩ := nu_inv e3 h2
    have := tO_le n4
    have hl : (f 3).toNat < 8 := by have := hR.2.2; omega
    obtain ⟨r1, r2, r3, r4⟩ := pfR_ok hl (N + 1) b.2 _ c n4 ((((hR.up (by omega) _).up (by omega) _).up (by omega) _).up (by omega) _) (by omega) h4
    have hk : ∀ j, ¬ (28 ≤ j ∧ j < 60) → ¬ (72 ≤ j ∧ j < 96) → c.2 j = f j := fun j q1 q2 => by rw [r4 j (by omega) (by omega) (by omega), upg_ne _ _ (by omega), upg_ne _ _ (by omega), upg_ne _ _ (by omega), upg_ne _ _ (by omega)]
    cases h
    refine ⟨r1, by dsimp only; omega, ⟨?_, ?_, ?_⟩, ?_, ?_⟩
    · dsimp only; rw [upg_ne _ _ (by decide), hk 1 (by omega) (by omega)]; exact hR.1
    · dsimp only; rw [upg_ne _ _ (by decide), hk 2 (by omega) (by omega)]; exact hR.2.1
    · dsimp only; rw [upg_eq, hk 3 (by omega) (by omega)]; have := hR.2.2; omega
    · dsimp only; rw [upg_ne _ _ (by decide), hk 457 (by omega) (by omega)]
    · dsimp only; rw [upg_ne _ _ (by decide), hk 0 (by omega) (by omega)]
theorem lw_ok {tx : Nat → Int} {N law : Nat} {t : Tok} {f : Row} {a : Tok × Row} (hl : law < 2) (hO : tOK tx N t) (hR : RI f) (h4 : 0 ≤ f 457 ∧ f 457 ≤ t.2.1) (h24 : ¬ t.1 = 24) (h : lwS tx N law t f = .inr a) : tOK tx N a.1 ∧ t.2.1 + 1 ≤ a.1.2.1 ∧ RI a.2 ∧ (0 ≤ a.2 457 ∧ a.2 457 ≤ a.1.2.1) ∧ a.2 0 = f 0 := by
  unfold lwS at h
  obtain ⟨t1, h1, h⟩ := bE_inv h
  obtain ⟨b, h2, h⟩ := bE_inv h
  have hx := nx_lt hO h24
  obtain ⟨e1, e2, e3, e4⟩ := ea_inv (tOK_nx hO).1 (by decide) h1
  have := tO_le e3
  obtain ⟨q1, q2, q3⟩ := ps_len (6 * N + 12) 0 0 t1 b.1 b.2 (by omega) e3 (by simp only [if_true]; omega) h2
  have hk : ∀ j, j < 4 → apC f b.1 j = f j := fun j hj => apC_lo _ (by omega)
  have h457 := apC_457 (f := f) b.1
  cases h
  refine ⟨q1, by dsimp only; omega, ⟨?_, ?_, ?_⟩, ?_, ?_⟩
  · dsimp only; rw [upg_ne _ _ (by omega), upg_ne _ _ (by omega), upg_ne _ _ (by omega), hk 1 (by omega)]; exact hR.1
  · dsimp only; rw [upg_ne _ _ (by omega), upg_ne _ _ (by omega), upg_ne _ _ (by omega), hk 2 (by omega)]; exact hR.2.1
  · dsimp only; rw [upg_ne _ _ (by omega), upg_ne _ _ (by omega), upg_ne _ _ (by omega), hk 3 (by omega)]; exact hR.2.2
  · dsimp only
    rw [upg_ne _ _ (by omega), upg_ne _ _ (by omega), upg_ne _ _ (by omega)]
    omega
  · dsimp only
    rw [upg_ne _ _ (by omega), upg_ne _ _ (by omega), upg_ne _ _ (by omega), hk 0 (by omega)]
theorem ca_ok {tx : Nat → Int} {N : Nat} {t : Tok} {f : Row} {a : Tok × Row} (hO : tOK tx N t) (hR : RI f) (h24 : ¬ t.1 = 24) (h : caS tx N t f = .inr a) : tOK tx N a.1 ∧ t.2.1 + 1 ≤ a.1.2.1 ∧ RI a.2 ∧ a.2 457 = f 457 ∧ a.2 0 = f 0 := by
  unfold caS at h
  obtain ⟨b, h1, h⟩ := bE_inv h
  obtain ⟨t1, h2, h⟩ := bE_inv h
  obtain ⟨c, h4, h⟩ := bE_inv h
  have hx := nx_lt hO h24
  obtain ⟨n1, n2, n3, n4, n5⟩ := nu_inv (tOK_nx hO).1 h1
  obtain ⟨e1, e2, e3, e4⟩ := ea_inv n4 (by decide) h2
  obtain ⟨o1, o2, o3, o4, o5⟩ := nu_inv e3 h4
  have := hR.1
  cases h
  exact ⟨o4, by dsimp only; omega, hR.up (by omega) _, upg_ne _ _ (by omega), upg_ne _ _ (by omega)⟩
theorem ln_ok {tx : Nat → Int} {N : Nat} {t : Tok} {f : Row} {a : Tok × Row} (hO : tOK tx N t) (hR : RI f) (h4 : 0 ≤ f 457 ∧ f 457 ≤ t.2.1) (h : lnS tx N t f = .inr a) : tOK tx N a.1 ∧ t.2.1 + 1 ≤ a.1.2.1 ∧ RI a.2 ∧ (0 ≤ a.2 457 ∧ a.2 457 ≤ a.1.2.1) ∧ a.2 0 = f 0 := by
  unfold lnS at h
  split at h
  · obtain ⟨q1, q2, q3, q4, q5⟩ := li_ok hO hR (by omega) h
    exact ⟨q1, q2, q3, by omega, q5⟩
  · split at h
    · obtain ⟨q1, q2, q3, q4, q5⟩ := pe_ok hO hR (by omega) h
      exact ⟨q1, q2, q3, by omega, q5⟩
    · split at h
      · exact lw_ok (by decide) hO hR h4 (by omega) h
      · split at h
        · exact lw_ok (by decide) hO hR h4 (by omega) h
        · split at h
          · obtain ⟨q1, q2, q3, q4, q5⟩ := ca_ok hO hR (by omega) h
            exact ⟨q1, q2, q3, by omega, q5⟩
          · cases h
theorem en_ok {tx : Nat → Int} {N : Nat} {t : Tok} {f : Row} {b : Tok × Row} (hO : tOK tx N t) (h : enS tx N t f = .inr b) : tOK tx N b.1 ∧ t.2.1 + 1 ≤ b.1.2.1 ∧ b.2 = upg f 0 (f 0 + 1) := by
  unfold enS at h
  obtain ⟨t1, h1, h⟩ := bE_inv h
  obtain ⟨e1, e2, e3, e4⟩ := ea_inv hO (by decide) h1
  cases h
  exact ⟨e3, e4, rfl⟩
/-- what stands between lines -/
def LnI (tx : Nat → Int) (N : Nat) (t : Tok) (f : Row) : Prop := tOK tx N t ∧ RI f ∧ (0 ≤ f 457 ∧ f 457 ≤ t.2.1) ∧ (0 ≤ f 0 ∧ f 0 ≤ t.2.1)
theorem LnI.nx {tx : Nat → Int} {N : Nat} {t : Tok} {f : Row} {a b : Tok × Row} (h : LnI tx N t f) (h1 : lnS tx N t f = .inr a) (h2 : enS tx N a.1 a.2 = .inr b) : LnI tx N b.1 b.2 ∧ t.2.1 + 1 ≤ b.1.2.1 := by
  obtain ⟨q1, q2, q3, q4, q5⟩ := ln_ok h.1 h.2.1 h.2.2.1 h1
  obtain ⟨e1, e2, e3⟩ := en_ok q1 h2
  refine ⟨⟨e1, ?_, ?_, ?_⟩, by omega⟩
  · rw [e3]; unfold RI; rw [upg_ne _ _ (by decide), upg_ne _ _ (by decide), upg_ne _ _ (by decide)]; exact q3
  · rw [e3, upg_ne _ _ (by decide)]; omega
  · rw [e3, upg_eq, q5]; have := h.2.2.2; omega
def hoG (tx : Nat → Int) (N : Nat) (f0 : Row) : Er (Tok × Row) := bE (eaS tx N 0 (tokV tx N 0)) fun t1 => bE (nuS tx N 2 12 t1) fun a => bE (enS tx N a.2 (upg f0 1 a.1)) fun b => hoL tx N (N + 1) b.1 b.2
theorem hoL_end {tx : Nat → Int} {N n : Nat} {t : Tok} {f : Row} (h : t.1 = 24) : hoL tx N (n + 1) t f = .inr (t, f) := by conv => lhs; unfold hoL; rw [if_pos h]
theorem hoL_ln {tx : Nat → Int} {N n : Nat} {t : Tok} {f : Row} (h : ¬ t.1 = 24) : hoL tx N (n + 1) t f = bE (lnS tx N t f) fun a => bE (enS tx N a.1 a.2) fun b => hoL tx N n b.1 b.2 := by conv => lhs; unfold hoL; rw [if_neg h]
set_option maxRecDepth 4000 in
theorem l_plain {Γ : Gm} {d : Nat} {m0 : Mem} (a L : Nat) (hK : K a = (1, L)) (hL : 1358 ≤ L) : ∀ (n k : Nat) (M : Mem), k + n = 1358 → (∀ j, j < k → M a j = 0) → (∀ j, 1358 ≤ j → M a j = m0 a j) → Fr (sA a) m0 M → Em Γ (d + 0) MX12_plain (fun r m' => (∀ j, j < 1358 → m' a j = f0R j) ∧ (∀ j, 1358 ≤ j → m' a j = m0 a j) ∧ Fr (sA a) m0 m') 2 [rv a, iv k] [] M := by
  intro n
  induction n with
  | zero =>
    intro k M hk hz ho hF
    refine Ev.iload_n (q := 3) dX12_plain_2 rfl rfl ?_
    refine Ev.sipush (q := 6) dX12_plain_3 kh_1358 rfl ?_
    refine Ev.icmp_ge (tgt := 19) (q := 9) dX12_plain_6 (by decide) rfl (fun h1 => ?_) (fun h1 => ?_)
    · skip
      refine Ev.aload_n (q := 20) dX12_plain_19 rfl rfl ?_
      refine Ev.iconst (q := 21) dX12_plain_20 ki_1 rfl ?_
      refine Ev.iconst (q := 22) dX12_plain_21 ki_2 rfl ?_
      refine sI (q := 23) (k := 1) dX12_plain_22 hK (by rfl) (by omega) rfl ?_
      refine rV dX12_plain_23 rfl ?_
      refine ⟨fun j hj => ?_, fun j hj => ?_, hF.up (by simp [sA])⟩
      · by_cases e : j = 1
        · subst e; rw [up_eq]; rfl
        · rw [up_k _ _ e, hz j (by omega)]; unfold f0R; rw [if_neg e]
      · rw [up_k _ _ (by omega)]; exact ho j hj
    · skip
      omega
  | succ n ih =>
    intro k M hk hz ho hF
    refine Ev.iload_n (q := 3) dX12_plain_2 rfl rfl ?_
    refine Ev.sipush (q := 6) dX12_plain_3 kh_1358 rfl ?_
    refine Ev.icmp_ge (tgt := 19) (q := 9) dX12_plain_6 (by decide) rfl (fun h1 => ?_) (fun h1 => ?_)
    · skip
      omega
    · skip
      refine Ev.aload_n (q := 10) dX12_plain_9 rfl rfl ?_
      refine Ev.iload_n (q := 11) dX12_plain_10 rfl rfl ?_
      refine Ev.iconst (q := 12) dX12_plain_11 ki_0 rfl ?_
      refine sI (q := 13) (k := k) dX12_plain_12 hK (by rfl) (by omega) rfl ?_
      refine iinc_1 (q := 16) dX12_plain_13 rfl rfl rfl ?_
      refine Ev.goto (q := 2) dX12_plain_16 (by decide) ?_
      rw [w32_of (by omega) (by omega)]
      refine ih (k + 1) _ (by omega) (fun j hj => ?_) (fun j hj => ?_) (hF.up (by simp [sA]))
      · by_cases e : j = k
        · subst e; rw [up_eq]
        · rw [up_k _ _ e]; exact hz j (by omega)
      · rw [up_k _ _ (by omega)]; exact ho j hj
set_option maxRecDepth 4000 in
theorem p_X12_plain {Γ : Gm} {d : Nat} {m : Mem} (a L : Nat) (hK : K a = (1, L)) (hL : 1358 ≤ L) : Ci Γ (d + 0) MX12_plain [rv a] m (fun r m' => (∀ j, j < 1358 → m' a j = f0R j) ∧ (∀ j, 1358 ≤ j → m' a j = m a j) ∧ Fr (sA a) m m') := by
  refine Ci.of moX12_plain rfl rfl (fun hA hM => ?_)
  show Em Γ (d + 0) MX12_plain _ 0 [rv a, uv] [] m
  refine Ev.iconst (q := 1) dX12_plain_0 ki_0 rfl ?_
  refine istore_n_1 (q := 2) dX12_plain_1 rfl rfl rfl ?_
  exact l_plain a L hK hL 1358 0 m (by omega) (fun j hj => by omega) (fun _ _ => rfl) (Fr.rf _ _)
