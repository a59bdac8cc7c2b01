/-! ===== the house's numbers as they can be ===== -/
def HI (g : Nat → Int) : Prop :=
  (2 ≤ g 1 ∧ g 1 ≤ 12) ∧ (0 ≤ g 2 ∧ g 2 ≤ 3) ∧ (0 ≤ g 3 ∧ g 3 ≤ 8) ∧ LawOk g 0 ∧ LawOk g 1 ∧
  (∀ l : Nat, (l : Int) < g 2 → (0 ≤ g (60 + l) ∧ g (60 + l) < g 1) ∧ (0 ≤ g (66 + l) ∧ (g (66 + l)).toNat < 2 ^ (g 1).toNat ∧ (g (66 + l)).toNat.testBit (g (60 + l)).toNat = false) ∧ (g (69 + l) = 0 ∨ g (69 + l) = 1) ∧ (1 ≤ g (22 + l) ∧ g (22 + l) ≤ 60) ∧ (0 ≤ g (25 + l) ∧ g (25 + l) ≤ 99)) ∧
  (∀ p : Nat, (p : Int) < g 3 → (0 ≤ g (28 + p) ∧ g (28 + p) < g 1) ∧ (0 ≤ g (36 + p) ∧ g (36 + p) ≤ 99) ∧ (0 ≤ g (44 + p) ∧ g (44 + p) ≤ 99) ∧ (1 ≤ g (52 + p) ∧ g (52 + p) ≤ 99) ∧ (0 ≤ g (72 + p) ∧ g (72 + p) < g 1) ∧ (g (88 + p) = -1 ∨ (0 ≤ g (88 + p) ∧ g (88 + p) < g 2 ∧ g (72 + p) = g (60 + (g (88 + p)).toNat)))) ∧
  (∀ f : Nat, f < 12 → 0 ≤ g (10 + f) ∧ g (10 + f) ≤ 99)
/-- a ride beside the house whose own floor isn't lit -/
def tOk2 (F : Nat) (t : Tr) : Prop := tOk F t ∧ t.2.2.1.testBit t.1 = false
theorem tgo_ok2 {F : Nat} {t t' : Tr} {sp : Int} {st : Nat → Nat → Int} (h : tOk2 F t) (hg : tgo sp st t = some t') : tOk2 F t' := by
  obtain ⟨h1, h2, h3⟩ := tgo_ok h.1 hg
  refine ⟨h1, ?_⟩
  rw [h3, dif_bit, Nat.testBit_two_pow]
  simp
theorem tgo_pop {F : Nat} {t t' : Tr} {sp : Int} {st : Nat → Nat → Int} (h : tOk2 F t) (hg : tgo sp st t = some t') : pop t'.2.2.1 + 1 = pop t.2.2.1 := by
  obtain ⟨h1, h2, h3⟩ := tgo_ok h.1 hg
  rw [h3]
  exact pop_dif h2 (by have := h1.2.1; have := h.1.1; omega)
theorem tgo_none {F : Nat} {t : Tr} {sp : Int} {st : Nat → Nat → Int} (h : tOk2 F t) (hg : tgo sp st t = none) : t.2.2.1 = 0 := by
  apply Nat.eq_of_testBit_eq
  intro i
  rw [Nat.zero_testBit]
  cases hb : t.2.2.1.testBit i
  · rfl
  · have hi := bit_lt h.1.2.2 hb
    have h12 := h.1.1
    have hne : i ≠ t.1 := by
      intro z
      rw [z, h.2] at hb
      cases hb
    obtain ⟨k, hk⟩ := nxt_lit (u := t.2.2.2.1) hb (by omega) hne (by have := h.1.2.1; omega)
    unfold tgo at hg
    rw [hk] at hg
    cases hg
theorem tgo_zero {t : Tr} {sp : Int} {st : Nat → Nat → Int} (h : t.2.2.1 = 0) : tgo sp st t = none := by
  unfold tgo
  cases hn : nxt t.2.2.1 t.1 t.2.2.2.1 with
  | none => rfl
  | some f =>
    obtain ⟨h1, -⟩ := nxt_some hn
    rw [h, Nat.zero_testBit] at h1
    cases h1
theorem pop_zero : pop 0 = 0 := by decide
/-- the best of all ways to get out: behind a ride to come -/
def bstL (sp : Int) (st : Nat → Nat → Int) (ft : Nat → Int) : Nat → Tr → Int × Int → Int × Int
  | 0, _, b => b
  | n + 1, t, b => match tgo sp st t with
    | none => b
    | some t' => bstL sp st ft n t' (if w32 (t'.2.2.2.2 + ft t'.1) < b.1 then (w32 (t'.2.2.2.2 + ft t'.1), (t'.1 : Int)) else b)
/-- with t's lights put otherwise -/
def withLit (t : Tr) (s : Nat) : Tr := (t.1, t.2.1, s, t.2.2.2.1, t.2.2.2.2)
def bestV (g : Nat → Int) (p lit : Nat) : Int × Int :=
  let b := w32 (g (80 + p) + footV g p (g (72 + p)).toNat (g (28 + p)).toNat)
  if g (88 + p) = -1 then (b, -1) else
    let l := (g (88 + p)).toNat
    bstL (g (22 + l)) (stopV g l) (fun f => footV g p f (g (28 + p)).toNat) 12 (withLit (liftT g l) lit) (b, ((g (60 + l)).toNat : Int))
def sBe (a k : Nat) : Bool := sT a k || (a == 211 && k == 27)
theorem sBe_T {a k : Nat} (h : sBe a k = false) : sT a k = false := by unfold sBe at h; simp at h; exact h.1
theorem sT_16 {a k : Nat} (h : sT a k = false) : s1617 a k = false := by unfold sT at h; unfold s1617; simp at h ⊢; exact ⟨h.1.2, h.2⟩
