/-! ===== what is read can be reckoned ===== -/
/-- codes that lead a stack of a to one of b, never higher than h -/
def okC (law h : Nat) : List Int → Nat → Nat → Prop
  | [], a, b => a = b
  | c :: cs, a, b => 0 ≤ c ∧ (c < 3000 → (c < 1000 ∨ (c < 1006 ∧ alw law (c - 1000).toNat = true)) ∧ a + 1 ≤ h ∧ okC law h cs (a + 1) b) ∧ (3000 ≤ c → c ≤ 3002 ∧ 2 ≤ a ∧ okC law h cs (a - 1) b)
theorem okC_app {law h : Nat} : ∀ (cs ds : List Int) (a b c : Nat), okC law h cs a b → okC law h ds b c → okC law h (cs ++ ds) a c := by
  intro cs
  induction cs with
  | nil => intro ds a b c h1 h2; cases h1; exact h2
  | cons x cs ih => intro ds a b c h1 h2; exact ⟨h1.1, fun z => ⟨(h1.2.1 z).1, (h1.2.1 z).2.1, ih _ _ _ _ (h1.2.1 z).2.2 h2⟩, fun z => ⟨(h1.2.2 z).1, (h1.2.2 z).2.1, ih _ _ _ _ (h1.2.2 z).2.2 h2⟩⟩
theorem okC_op {law h a b : Nat} {op : Int} {cs : List Int} (ho : 3000 ≤ op ∧ op ≤ 3002) (h1 : okC law h cs a b) (ha : 1 ≤ a) : okC law h (op :: cs) (a + 1) b := ⟨by omega, fun z => absurd z (by omega), fun _ => ⟨ho.2, by omega, h1⟩⟩
theorem wdV_al {law : Nat} {k : Int} (hl : law < 2) (h : ¬ wdV law k = -1) : 0 ≤ wdV law k ∧ wdV law k < 6 ∧ alw law (wdV law k).toNat = true := by
  unfold wdV at h ⊢
  rcases (show law = 0 ∨ law = 1 by omega) with rfl | rfl
  · by_cases h1 : k = 18
    · rw [if_pos h1]; decide
    · rw [if_neg h1, if_pos rfl] at h ⊢
      by_cases h2 : k = 17
      · rw [if_pos h2]; decide
      · rw [if_neg h2] at h ⊢
        by_cases h3 : k = 10
        · rw [if_pos h3]; decide
        · rw [if_neg h3] at h ⊢
          by_cases h4 : k = 11
          · rw [if_pos h4]; decide
          · rw [if_neg h4] at h; exact absurd rfl h
  · by_cases h1 : k = 18
    · rw [if_pos h1]; decide
    · rw [if_neg h1, if_neg (by decide)] at h ⊢
      by_cases h2 : k = 5
      · rw [if_pos h2]; decide
      · rw [if_neg h2] at h ⊢
        by_cases h3 : k = 1
        · rw [if_pos h3]; decide
        · rw [if_neg h3] at h; exact absurd rfl h
theorem ps_ok {tx : Nat → Int} {N law : Nat} (hl : law < 2) : ∀ (n mode deep : Nat) (t : Tok) (a : List Int × Tok), mode ≤ 4 → deep ≤ 6 → tOK tx N t → 6 * (N - t.2.1) + (if mode = 0 then 3 else if mode = 2 then 2 else 1) ≤ n → psR tx N law n mode deep t = .inr a → ∀ s h : Nat, s + (if mode = 4 then 1 else if mode = 2 ∨ mode = 3 then 2 else 3) + 2 * (6 - deep) ≤ h → okC law h a.1 (if mode = 1 ∨ mode = 3 then s + 1 else s) (s + 1) := by
  intro n
  induction n with
  | zero => intro mode deep t a _ _ _ hn; exact absurd hn (by split <;> (try split) <;> omega)
  | succ n ih =>
    intro mode deep t a hm hd hO hn he s h hs
    have hle := tO_le hO
    rcases (show mode = 0 ∨ mode = 1 ∨ mode = 2 ∨ mode = 3 ∨ mode = 4 by omega) with rfl | rfl | rfl | rfl | rfl
    · rw [ps0] at he
      obtain ⟨b, h1, he⟩ := bE_inv he
      obtain ⟨c, h2, he⟩ := bE_inv he
      simp only [if_true] at hn
      obtain ⟨q1, q2, q3⟩ := ps_len n 2 deep t b.1 b.2 (by omega) hO (by simp; omega) h1
      have := tO_le q1
      have := q3 (by decide)
      have r1 := ih 2 deep t b (by omega) hd hO (by simp; omega) h1 s h (by simp at hs ⊢; omega)
      have r2 := ih 1 deep b.2 c (by omega) hd q1 (by simp; omega) h2 s h (by simp at hs ⊢; omega)
      cases he
      simp at r1 r2 ⊢
      exact okC_app _ _ _ _ _ r1 r2
    · rw [ps1] at he
      by_cases hpm : t.1 = 32 ∨ t.1 = 33
      · rw [if_pos hpm] at he
        obtain ⟨b, h1, he⟩ := bE_inv he
        obtain ⟨c, h2, he⟩ := bE_inv he
        have hx := nx_lt hO (show ¬ t.1 = 24 by omega)
        have hO1 := (tOK_nx hO).1
        have hle1 := tO_le hO1
        simp at hn
        obtain ⟨q1, q2, q3⟩ := ps_len n 2 deep _ b.1 b.2 (by omega) hO1 (by simp; omega) h1
        have := tO_le q1
        have := q3 (by decide)
        have r1 := ih 2 deep _ b (by omega) hd hO1 (by simp; omega) h1 (s + 1) h (by simp at hs ⊢; omega)
        have r2 := ih 1 deep b.2 c (by omega) hd q1 (by simp; omega) h2 s h (by simp at hs ⊢; omega)
        cases he
        simp at r1 r2 ⊢
        exact okC_app _ _ _ _ _ r1 (okC_op (by split <;> decide) r2 (by omega))
      · rw [if_neg hpm] at he
        cases he
        simp [okC]
    · rw [ps2] at he
      obtain ⟨b, h1, he⟩ := bE_inv he
      obtain ⟨c, h2, he⟩ := bE_inv he
      simp at hn
      obtain ⟨q1, q2, q3⟩ := ps_len n 4 deep t b.1 b.2 (by omega) hO (by simp; omega) h1
      have := tO_le q1
      have := q3 (by decide)
      have r1 := ih 4 deep t b (by omega) hd hO (by simp; omega) h1 s h (by simp at hs ⊢; omega)
      have r2 := ih 3 deep b.2 c (by omega) hd q1 (by simp; omega) h2 s h (by simp at hs ⊢; omega)
      cases he
      simp at r1 r2 ⊢
      exact okC_app _ _ _ _ _ r1 r2
    · rw [ps3] at he
      by_cases hpm : t.1 = 34
      · rw [if_pos hpm] at he
        obtain ⟨b, h1, he⟩ := bE_inv he
        obtain ⟨c, h2, he⟩ := bE_inv he
        have hx := nx_lt hO (show ¬ t.1 = 24 by omega)
        have hO1 := (tOK_nx hO).1
        have hle1 := tO_le hO1
        simp at hn
        obtain ⟨q1, q2, q3⟩ := ps_len n 4 deep _ b.1 b.2 (by omega) hO1 (by simp; omega) h1
        have := tO_le q1
        have := q3 (by decide)
        have r1 := ih 4 deep _ b (by omega) hd hO1 (by simp; omega) h1 (s + 1) h (by simp at hs ⊢; omega)
        have r2 := ih 3 deep b.2 c (by omega) hd q1 (by simp; omega) h2 s h (by simp at hs ⊢; omega)
        cases he
        simp at r1 r2 ⊢
        exact okC_app _ _ _ _ _ r1 (okC_op (by decide) r2 (by omega))
      · rw [if_neg hpm] at he
        cases he
        simp [okC]
    · rw [ps4] at he
      simp at hs
      by_cases h23 : t.1 = 23
      · rw [if_pos h23] at he
        have hnum := hO.2.2.2.2 h23
        cases he
        simp
        exact ⟨by omega, fun _ => ⟨Or.inl (by omega), by omega, rfl⟩, fun z => absurd z (by omega)⟩
      · rw [if_neg h23] at he
        by_cases hw : wdV law t.1 = -1
        · rw [if_neg (fun z => z hw)] at he
          by_cases h35 : t.1 = 35
          · rw [if_pos h35] at he
            by_cases h6 : deep = 6
            · rw [if_pos h6] at he; cases he
            · rw [if_neg h6] at he
              obtain ⟨b, h1, he⟩ := bE_inv he
              obtain ⟨c, h2, he⟩ := bE_inv he
              have hx := nx_lt hO (show ¬ t.1 = 24 by omega)
              have hO1 := (tOK_nx hO).1
              have hle1 := tO_le hO1
              simp at hn
              have r1 := ih 0 (deep + 1) _ b (by omega) (by omega) hO1 (by simp; omega) h1 s h (by simp; omega)
              cases he
              simp at r1 ⊢
              exact r1
          · rw [if_neg h35] at he; cases he
        · rw [if_pos hw] at he
          obtain ⟨w1, w2, w3⟩ := wdV_al hl hw
          cases he
          simp
          exact ⟨by omega, fun _ => ⟨Or.inr ⟨by omega, by rw [show (1000 + wdV law t.1 - 1000) = wdV law t.1 by omega]; exact w3⟩, by omega, rfl⟩, fun z => absurd z (by omega)⟩
theorem okC_evn {law h : Nat} {c : Nat → Int} : ∀ (cs : List Int) (i a b : Nat), okC law h cs a b → a ≤ h → (∀ k, k < cs.length → c (i + k) = cs.getD k 0) → (∀ w, (evn w c i).length = a) → (∀ k, k < cs.length → 0 ≤ c (i + k) ∧ (c (i + k) < 3000 → c (i + k) < 1000 ∨ (c (i + k) < 1006 ∧ alw law (c (i + k) - 1000).toNat = true)) ∧ (3000 ≤ c (i + k) → c (i + k) ≤ 3002 ∧ ∀ w, 2 ≤ (evn w c (i + k)).length)) ∧ (∀ k, k ≤ cs.length → ∀ w, (evn w c (i + k)).length ≤ h) ∧ ∀ w, (evn w c (i + cs.length)).length = b := by
  intro cs
  induction cs with
  | nil =>
    intro i a b h1 ha hc he
    cases h1
    refine ⟨fun k hk => absurd hk (Nat.not_lt_zero _), fun k hk w => ?_, he⟩
    rw [show k = 0 from Nat.le_zero.mp hk, Nat.add_zero, he w]
    exact ha
  | cons x cs ih =>
    intro i a b h1 ha hc he
    have hx : c i = x := hc 0 (by simp)
    have hc' : ∀ k, k < cs.length → c (i + 1 + k) = cs.getD k 0 := fun k hk => by
      have := hc (k + 1) (by rw [List.length_cons]; omega)
      rw [show i + 1 + k = i + (k + 1) by omega, this]
      rfl
    have hev : ∀ w, evn w c (i + 1) = evs w (evn w c i) (c i) := fun w => rfl
    obtain ⟨p1, p2, p3⟩ := h1
    obtain ⟨a', ha', r, he'⟩ : ∃ a', a' ≤ h ∧ okC law h cs a' b ∧ ∀ w, (evn w c (i + 1)).length = a' := by
      by_cases z : x < 3000
      · obtain ⟨u1, u2, u3⟩ := p2 z
        exact ⟨a + 1, u2, u3, fun w => by rw [hev, evs_len, hx, if_pos z, he w]⟩
      · obtain ⟨u1, u2, u3⟩ := p3 (by omega)
        exact ⟨a - 1, by omega, u3, fun w => by rw [hev, evs_len, hx, if_neg z, he w, if_pos u2]⟩
    obtain ⟨i1, i2, i3⟩ := ih (i + 1) a' b r ha' hc' he'
    refine ⟨fun k hk => ?_, fun k hk w => ?_, fun w => ?_⟩
    · cases k with
      | zero =>
        rw [Nat.add_zero, hx]
        exact ⟨p1, fun z => (p2 z).1, fun z => ⟨(p3 z).1, fun w => by rw [he w]; exact (p3 z).2.1⟩⟩
      | succ k =>
        rw [show i + (k + 1) = i + 1 + k by omega]
        exact i1 k (by rw [List.length_cons] at hk; omega)
    · cases k with
      | zero => rw [Nat.add_zero, he w]; exact ha
      | succ k =>
        rw [show i + (k + 1) = i + 1 + k by omega]
        exact i2 k (by rw [List.length_cons] at hk; omega) w
    · rw [List.length_cons, show i + (cs.length + 1) = i + 1 + cs.length by omega]
      exact i3 w
/-- laws as they are told -/
def LW (f : Row) : Prop := ∀ law, law < 2 → f (4 + law) = 0 ∨ (f (4 + law) = 1 ∧ ∃ (fr : Nat) (cs : List Int), f (6 + law) = fr ∧ f (8 + law) = (cs.length : Int) ∧ (fr : Int) + cs.length ≤ f 457 ∧ okC law 32 cs 0 1 ∧ ∀ k, k < cs.length → f (458 + fr + k) = cs.getD k 0)
theorem LW.wb {f : Row} (h : LW f) : WB f := by
  intro law hl h1
  rcases h law hl with z | ⟨-, fr, cs, e1, e2, e3, -⟩
  · omega
  · omega
theorem LW.lawOk {f : Row} (h : LW f) (h9 : f 457 ≤ 900) {law : Nat} (hl : law < 2) : LawOk f law ∧ (f (4 + law) = 1 → ∀ w k, k ≤ (f (8 + law)).toNat → (evn w (fun k => f (458 + (f (6 + law)).toNat + k)) k).length ≤ 32) := by
  rcases h law hl with z | ⟨z, fr, cs, e1, e2, e3, e4, e5⟩
  · exact ⟨Or.inl z, fun y => by omega⟩
  · obtain ⟨i1, i2, i3⟩ := okC_evn (c := fun k => f (458 + fr + k)) cs 0 0 1 e4 (by omega) (fun k hk => by rw [Nat.zero_add]; exact e5 k hk) (fun w => rfl)
    refine ⟨Or.inr ⟨z, fr, cs.length, e1, e2, by omega, by omega, fun k hk => ?_, fun w => ?_⟩, fun _ w k hk => ?_⟩
    · have := i1 k hk
      rw [Nat.zero_add] at this
      exact this
    · have := i3 w
      rw [Nat.zero_add] at this
      exact this
    · rw [e1, Int.toNat_natCast]
      have := i2 k (by rw [e2] at hk; omega) w
      rw [Nat.zero_add] at this
      exact this
theorem LW.keep {f f' : Row} (h : LW f) (e : ∀ j, (4 ≤ j ∧ j < 10) ∨ 457 ≤ j → f' j = f j) : LW f' := by
  intro law hl
  rw [e (4 + law) (by omega), e (6 + law) (by omega), e (8 + law) (by omega), e 457 (by omega)]
  rcases h law hl with z | ⟨z, fr, cs, e1, e2, e3, e4, e5⟩
  · exact Or.inl z
  · exact Or.inr ⟨z, fr, cs, e1, e2, e3, e4, fun k hk => by rw [e _ (by omega)]; exact e5 k hk⟩
theorem LW.law {f : Row} {law : Nat} {cs : List Int} (h : LW f) (hl : law < 2) (h4 : 0 ≤ f 457) (hc : okC law 32 cs 0 1) : LW (lwW law f cs) := by
  obtain ⟨e1, e2, e3⟩ := @lwW_4 law f cs
  have e457 : lwW law f cs 457 = f 457 + cs.length := by unfold lwW; rw [upg_ne _ _ (by omega), upg_ne _ _ (by omega), upg_ne _ _ (by omega), apC_457]
  intro o ho
  by_cases eo : o = law
  · subst eo
    refine Or.inr ⟨e1, (f 457).toNat, cs, by rw [e2]; omega, e3, by rw [e457]; omega, hc, fun k hk => ?_⟩
    unfold lwW
    rw [upg_ne _ _ (by omega), upg_ne _ _ (by omega), upg_ne _ _ (by omega), (apC_hi cs f h4).1 k hk]
  · rw [lwW_o h4 (by omega) (by omega) (by omega) (by omega) (by omega), lwW_o h4 (by omega) (by omega) (by omega) (by omega) (by omega), lwW_o h4 (by omega) (by omega) (by omega) (by omega) (by omega), e457]
    rcases h o ho with z | ⟨z, fr, ds, q1, q2, q3, q4, q5⟩
    · exact Or.inl z
    · exact Or.inr ⟨z, fr, ds, q1, q2, by omega, q4, fun k hk => by rw [lwW_o h4 (by omega) (by omega) (by omega) (by omega) (by omega)]; exact q5 k hk⟩
