/-! ===== reading a text: what it says ===== -/
abbrev Er (α : Type) : Type := (Int × Nat) ⊕ α
def bE {α β : Type} (x : Er α) (k : α → Er β) : Er β := match x with
  | .inl e => .inl e
  | .inr a => k a
abbrev Row : Type := Nat → Int
section READ
variable (tx : Nat → Int) (N : Nat)
def nxS (t : Tok) : Tok := tokV tx N t.2.2.1
def flS {α : Type} (t : Tok) (k : Int) : Er α := .inl ((if t.1 = 25 then 1 else k), t.2.1)
def eaS (k : Int) (t : Tok) : Er Tok := if t.1 = k then .inr (nxS tx N t) else flS t 2
def nuS (lo hi : Int) (t : Tok) : Er (Int × Tok) := if t.1 = 23 then (if lo ≤ t.2.2.2 ∧ t.2.2.2 ≤ hi then .inr (t.2.2.2, nxS tx N t) else flS t 3) else flS t 2
/-- a law's word, by its kind -/
def wdV (law : Nat) (k : Int) : Int := if k = 18 then 0 else if law = 0 then (if k = 17 then 1 else if k = 10 then 2 else if k = 11 then 3 else -1) else (if k = 5 then 4 else if k = 1 then 5 else -1)
/-- mode 0: a sum; 1: what follows its first term; 2: a term; 3: what follows its first atom; 4: an atom -/
def psR (law : Nat) : Nat → Nat → Nat → Tok → Er (List Int × Tok)
  | 0, _, _, t => .inr ([], t)
  | n + 1, mode, deep, t =>
    if mode = 0 then bE (psR law n 2 deep t) fun a => bE (psR law n 1 deep a.2) fun b => .inr (a.1 ++ b.1, b.2) else
    if mode = 1 then (if t.1 = 32 ∨ t.1 = 33 then bE (psR law n 2 deep (nxS tx N t)) fun a => bE (psR law n 1 deep a.2) fun b => .inr (a.1 ++ ((if t.1 = 32 then 3000 else 3001) :: b.1), b.2) else .inr ([], t)) else
    if mode = 2 then bE (psR law n 4 deep t) fun a => bE (psR law n 3 deep a.2) fun b => .inr (a.1 ++ b.1, b.2) else
    if mode = 3 then (if t.1 = 34 then bE (psR law n 4 deep (nxS tx N t)) fun a => bE (psR law n 3 deep a.2) fun b => .inr (a.1 ++ (3002 :: b.1), b.2) else .inr ([], t)) else
    if t.1 = 23 then .inr ([t.2.2.2], nxS tx N t) else if ¬ wdV law t.1 = -1 then .inr ([1000 + wdV law t.1], nxS tx N t) else
      if t.1 = 35 then (if deep = 6 then flS t 4 else bE (psR law n 0 (deep + 1) (nxS tx N t)) fun a => bE (eaS tx N 36 a.2) fun t' => .inr (a.1, t')) else flS t 2
def apC (f : Row) : List Int → Row
  | [] => f
  | c :: cs => apC (upg (upg f (458 + (f 457).toNat) c) 457 (f 457 + 1)) cs
def litR (own hi : Int) : Nat → Nat → Tok → Er (Nat × Tok)
  | 0, s, t => .inr (s, t)
  | n + 1, s, t => if t.1 = 23 ∧ t.2.2.2 = own then flS t 3 else bE (nuS tx N 0 hi t) fun a => if a.2.1 = 23 then litR own hi n (s ||| 2 ^ a.1.toNat) a.2 else .inr (s ||| 2 ^ a.1.toNat, a.2)
def lfR (l : Nat) : Nat → Tok → Row → Er (Tok × Row)
  | 0, t, f => .inr (t, f)
  | n + 1, t, f => if t.1 = 3 then bE (nuS tx N 1 60 (nxS tx N t)) fun a => lfR l n a.2 (upg f (22 + l) a.1) else
    if t.1 = 4 then bE (nuS tx N 0 99 (nxS tx N t)) fun a => lfR l n a.2 (upg f (25 + l) a.1) else
    if t.1 = 5 then bE (litR tx N (f (60 + l)) (f 1 - 1) (N + 1) 0 (nxS tx N t)) fun a => lfR l n a.2 (upg f (66 + l) (a.1 : Int)) else
    if t.1 = 6 then lfR l n (nxS tx N t) (upg f (69 + l) 0) else .inr (t, f)
def liS (t : Tok) (f : Row) : Er (Tok × Row) := if f 2 = 3 then flS t 4 else bE (eaS tx N 2 (nxS tx N t)) fun t1 => bE (nuS tx N 0 (f 1 - 1) t1) fun a =>
  bE (lfR tx N (f 2).toNat (N + 1) a.2 (upg (upg (upg (upg f (60 + (f 2).toNat) a.1) (22 + (f 2).toNat) 3) (25 + (f 2).toNat) 8) (69 + (f 2).toNat) 1)) fun b => .inr (b.1, upg b.2 2 (b.2 2 + 1))
def pfR (p : Nat) : Nat → Tok → Row → Er (Tok × Row)
  | 0, t, f => .inr (t, f)
  | n + 1, t, f => if t.1 = 2 then bE (nuS tx N 0 (f 1 - 1) (nxS tx N t)) fun a => pfR p n a.2 (upg (upg f (72 + p) a.1) (88 + p) (-1)) else
    if t.1 = 9 then bE (nuS tx N 0 (f 2 - 1) (nxS tx N t)) fun a => pfR p n a.2 (upg (upg f (72 + p) (f (60 + a.1.toNat))) (88 + p) a.1) else
    if t.1 = 10 then bE (nuS tx N 0 99 (nxS tx N t)) fun a => pfR p n a.2 (upg f (36 + p) a.1) else
    if t.1 = 11 then bE (nuS tx N 0 99 (nxS tx N t)) fun a => pfR p n a.2 (upg f (44 + p) a.1) else
    if t.1 = 12 then bE (nuS tx N 1 99 (nxS tx N t)) fun a => pfR p n a.2 (upg f (52 + p) a.1) else .inr (t, f)
def peS (t : Tok) (f : Row) : Er (Tok × Row) := if f 3 = 8 then flS t 4 else bE (eaS tx N 8 (nxS tx N t)) fun t1 => bE (nuS tx N 0 (f 1 - 1) t1) fun a =>
  bE (pfR tx N (f 3).toNat (N + 1) a.2 (upg (upg (upg (upg f (28 + (f 3).toNat) a.1) (52 + (f 3).toNat) 1) (72 + (f 3).toNat) 0) (88 + (f 3).toNat) (-1))) fun b => .inr (b.1, upg b.2 3 (b.2 3 + 1))
def lwS (law : Nat) (t : Tok) (f : Row) : Er (Tok × Row) := bE (eaS tx N 31 (nxS tx N t)) fun t1 => bE (psR tx N law (6 * N + 12) 0 0 t1) fun a => .inr (a.2, upg (upg (upg (apC f a.1) (4 + law) 1) (6 + law) (f 457)) (8 + law) ((apC f a.1) 457 - f 457))
def caS (t : Tok) (f : Row) : Er (Tok × Row) := bE (nuS tx N 0 (f 1 - 1) (nxS tx N t)) fun a => bE (eaS tx N 16 a.2) fun t1 => bE (nuS tx N 0 99 t1) fun b => .inr (b.2, upg f (10 + a.1.toNat) b.1)
def lnS (t : Tok) (f : Row) : Er (Tok × Row) := if t.1 = 1 then liS tx N t f else if t.1 = 7 then peS tx N t f else if t.1 = 13 then lwS tx N 0 t f else if t.1 = 14 then lwS tx N 1 t f else if t.1 = 15 then caS tx N t f else flS t 2
def enS (t : Tok) (f : Row) : Er (Tok × Row) := bE (eaS tx N 30 t) fun t1 => .inr (t1, upg f 0 (f 0 + 1))
def hoL : Nat → Tok → Row → Er (Tok × Row)
  | 0, t, f => .inr (t, f)
  | n + 1, t, f => if t.1 = 24 then .inr (t, f) else bE (lnS tx N t f) fun a => bE (enS tx N a.1 a.2) fun b => hoL n b.1 b.2
def f0R : Row := fun j => if j = 1 then 2 else 0
def hoS : Er (Tok × Row) := bE (eaS tx N 0 (tokV tx N 0)) fun t1 => bE (nuS tx N 2 12 t1) fun a => bE (enS tx N a.2 (upg f0R 1 a.1)) fun b => hoL tx N (N + 1) b.1 b.2
end READ
/-- a token as it can stand: t is the one read at its place -/
def tOK (tx : Nat → Int) (N : Nat) (t : Tok) : Prop := t.2.1 ≤ t.2.2.1 ∧ t.2.2.1 ≤ N ∧ (t.1 ≠ 24 → t.2.1 < t.2.2.1) ∧ (0 ≤ t.1 ∧ t.1 ≤ 36) ∧ (t.1 = 23 → 0 ≤ t.2.2.2 ∧ t.2.2.2 ≤ 999)
theorem tOK_nx {tx : Nat → Int} {N : Nat} {t : Tok} (h : tOK tx N t) : tOK tx N (nxS tx N t) ∧ t.2.2.1 ≤ (nxS tx N t).2.1 := by
  have h1 := tok_le tx N t.2.2.1 h.2.1
  exact ⟨⟨h1.2.1, h1.2.2.1, h1.2.2.2.1, h1.2.2.2.2.1, h1.2.2.2.2.2⟩, h1.1⟩
theorem tOK_0 (tx : Nat → Int) (N : Nat) : tOK tx N (tokV tx N 0) := by
  have h1 := tok_le tx N 0 (by omega)
  exact ⟨h1.2.1, h1.2.2.1, h1.2.2.2.1, h1.2.2.2.2.1, h1.2.2.2.2.2⟩
/-! ===== the reference: how reading stands ===== -/
def sPs (a k : Nat) : Bool := (a == 211 && (k == 6 || k == 7 || k == 9 || k == 10 || k == 11 || k == 12 || k == 15)) || a == 215
theorem sPs_Tk {a k : Nat} (h : sPs a k = false) : sTk a k = false := by
  unfold sPs at h; unfold sTk
  simp at h ⊢
  intro h1
  have := h.1 h1
  simp_all
def OKm (m : Mem) (t : Tok) (f : Row) : Prop := m 211 11 = 0 ∧ TkM m t ∧ m 215 = f
def BDm (m : Mem) (e : Int × Nat) : Prop := m 211 11 = e.1 ∧ ¬ e.1 = 0 ∧ m 211 12 = e.2
def PM (m : Mem) (x : Er (Tok × Row)) : Prop := match x with
  | .inl e => BDm m e
  | .inr a => OKm m a.1 a.2
/-- the text and its length -/
def TX (m : Mem) (tx : Nat → Int) (N : Nat) : Prop := m 211 8 = N ∧ m 214 = tx
theorem TX.keep {m m' : Mem} {tx : Nat → Int} {N : Nat} (h : TX m tx N) (hf : Fr sPs m m') : TX m' tx N := ⟨by rw [hf 211 8 rfl]; exact h.1, by rw [hf.row 214 (fun _ => rfl)]; exact h.2⟩
theorem TkM.keep {m m' : Mem} {t : Tok} (h : TkM m t) (h1 : m' 211 9 = m 211 9) (h2 : m' 211 6 = m 211 6) (h3 : m' 211 7 = m 211 7) (h4 : m' 211 10 = m 211 10) : TkM m' t := ⟨by rw [h1]; exact h.1, by rw [h2]; exact h.2.1, by rw [h3]; exact h.2.2.1, fun z => by rw [h4]; exact h.2.2.2 z⟩
