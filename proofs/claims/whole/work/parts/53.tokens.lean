/-! ===== tokens ===== -/
def isSm (c : Int) : Bool := decide (97 ≤ c ∧ c ≤ 122)
def isDg (c : Int) : Bool := decide (48 ≤ c ∧ c ≤ 57)
def isSp (c : Int) : Bool := decide (c = 10 ∨ c = 32)
def runE (q : Int → Bool) (tx : Nat → Int) (n : Nat) : Nat → Nat → Nat
  | 0, p => p
  | k + 1, p => if p < n ∧ q (tx p) = true then runE q tx n k (p + 1) else p
def rE (q : Int → Bool) (tx : Nat → Int) (n p : Nat) : Nat := runE q tx n (n - p) p
theorem rE_in {q : Int → Bool} {tx : Nat → Int} {n p : Nat} (h : p < n) (hq : q (tx p) = true) : rE q tx n p = rE q tx n (p + 1) := by
  unfold rE
  rw [show n - p = (n - (p + 1)) + 1 by omega]
  conv => lhs; unfold runE; rw [if_pos ⟨h, hq⟩]
theorem rE_out {q : Int → Bool} {tx : Nat → Int} {n p : Nat} (h : ¬ (p < n ∧ q (tx p) = true)) : rE q tx n p = p := by
  unfold rE
  by_cases e : p < n
  · rw [show n - p = (n - (p + 1)) + 1 by omega]
    unfold runE
    rw [if_neg h]
  · rw [show n - p = 0 by omega]
    rfl
theorem runE_le (q : Int → Bool) (tx : Nat → Int) (n : Nat) : ∀ (k p : Nat), p ≤ runE q tx n k p ∧ (p ≤ n → runE q tx n k p ≤ n) := by
  intro k
  induction k with
  | zero => intro p; exact ⟨Nat.le_refl _, fun h => h⟩
  | succ k ih =>
    intro p
    unfold runE
    split
    · rename_i h
      have := ih (p + 1)
      exact ⟨by omega, fun _ => this.2 (by omega)⟩
    · exact ⟨Nat.le_refl _, fun h => h⟩
theorem rE_le (q : Int → Bool) (tx : Nat → Int) (n p : Nat) : p ≤ rE q tx n p ∧ (p ≤ n → rE q tx n p ≤ n) := runE_le q tx n _ p
theorem runE_all (q : Int → Bool) (tx : Nat → Int) (n : Nat) : ∀ (k p i : Nat), p ≤ i → i < runE q tx n k p → q (tx i) = true ∧ i < n := by
  intro k
  induction k with
  | zero => intro p i h1 h2; unfold runE at h2; omega
  | succ k ih =>
    intro p i h1 h2
    unfold runE at h2
    split at h2
    · rename_i h
      by_cases e : i = p
      · subst e; exact ⟨h.2, h.1⟩
      · exact ih (p + 1) i (by omega) h2
    · omega
theorem runE_congr {q : Int → Bool} {tx tx' : Nat → Int} {n : Nat} (h : ∀ i, i < n → q (tx i) = q (tx' i)) : ∀ k p, runE q tx n k p = runE q tx' n k p := by
  intro k
  induction k with
  | zero => intro p; rfl
  | succ k ih =>
    intro p
    unfold runE
    by_cases hp : p < n
    · rw [h p hp, ih (p + 1)]
    · rw [if_neg (fun z => hp z.1), if_neg (fun z => hp z.1)]
/-- the words of a text -/
def kwT : List (List Nat) := [[104, 111, 117, 115, 101], [108, 105, 102, 116], [97, 116], [115, 112, 101, 101, 100], [115, 116, 111, 112, 115], [108, 105, 116], [100, 111, 119, 110], [112, 101, 114, 115, 111, 110], [104, 111, 109, 101], [105, 110], [108, 111, 97, 100], [97, 103, 101], [119, 111, 114, 116, 104], [102, 111, 111, 116], [115, 116, 111, 112], [99, 97, 108, 108, 115], [116, 105, 109, 101, 115], [117, 112], [102, 108, 111, 111, 114]]
def kwP : List Nat := [1, 7, 12, 15, 21, 27, 31, 36, 43, 48, 51, 56, 60, 66, 71, 76, 82, 88, 91, 97]
def wrdB (tx : Nat → Int) (a b : Nat) (w : List Nat) : Bool := decide (a + w.length = b) && (List.range w.length).all (fun i => decide (tx (a + i) = (w.getD i 0 : Nat)))
theorem wrdB_iff {tx : Nat → Int} {a b : Nat} {w : List Nat} : wrdB tx a b w = true ↔ (a + w.length = b ∧ ∀ i, i < w.length → tx (a + i) = (w.getD i 0 : Nat)) := by
  unfold wrdB
  rw [Bool.and_eq_true, decide_eq_true_eq, List.all_eq_true]
  constructor
  · intro h
    exact ⟨h.1, fun i hi => of_decide_eq_true (h.2 i (List.mem_range.mpr hi))⟩
  · intro h
    exact ⟨h.1, fun i hi => decide_eq_true (h.2 i (List.mem_range.mp hi))⟩
/-- which word: n are left, from the k-th on -/
def keyF (tx : Nat → Int) (a b : Nat) : Nat → Nat → Int
  | 0, _ => 22
  | n + 1, k => if wrdB tx a b (kwT.getD k []) = true then (k : Int) else keyF tx a b n (k + 1)
def keyV (tx : Nat → Int) (a b : Nat) : Int := keyF tx a b 19 0
def sgnV (c : Int) : Int := if c = 59 then 30 else if c = 58 then 31 else if c = 43 then 32 else if c = 45 then 33 else if c = 42 then 34 else if c = 40 then 35 else if c = 41 then 36 else 25
def dig (tx : Nat → Int) (a : Nat) : Nat → Int
  | 0 => 0
  | k + 1 => 10 * dig tx a k + tx (a + k) - 48
abbrev Tok : Type := Int × Nat × Nat × Int
/-- the token from p on: its kind, its place, the place behind it, its number -/
def tokV (tx : Nat → Int) (n p : Nat) : Tok :=
  if n ≤ rE isSp tx n p then (24, rE isSp tx n p, rE isSp tx n p, 0) else
  if isSm (tx (rE isSp tx n p)) = true then (keyV tx (rE isSp tx n p) (rE isSm tx n (rE isSp tx n p)), rE isSp tx n p, rE isSm tx n (rE isSp tx n p), 0) else
  if isDg (tx (rE isSp tx n p)) = true then ((if 3 < rE isDg tx n (rE isSp tx n p) - rE isSp tx n p then 25 else 23), rE isSp tx n p, rE isDg tx n (rE isSp tx n p), dig tx (rE isSp tx n p) (min 3 (rE isDg tx n (rE isSp tx n p) - rE isSp tx n p))) else
  (sgnV (tx (rE isSp tx n p)), rE isSp tx n p, rE isSp tx n p + 1, 0)
theorem keyF_rng (tx : Nat → Int) (a b : Nat) : ∀ n k, k + n = 19 → keyF tx a b n k = 22 ∨ (k ≤ (keyF tx a b n k) ∧ keyF tx a b n k < 19) := by
  intro n
  induction n with
  | zero => intro k _; exact Or.inl rfl
  | succ n ih =>
    intro k hk
    unfold keyF
    split
    · exact Or.inr ⟨Int.le_refl _, by omega⟩
    · rcases ih (k + 1) (by omega) with h | h
      · exact Or.inl h
      · exact Or.inr ⟨by omega, h.2⟩
theorem keyV_rng (tx : Nat → Int) (a b : Nat) : 0 ≤ keyV tx a b ∧ keyV tx a b ≤ 22 := by
  rcases keyF_rng tx a b 19 0 rfl with h | h
  · unfold keyV; omega
  · unfold keyV; omega
theorem sgnV_rng (c : Int) : 25 ≤ sgnV c ∧ sgnV c ≤ 36 := by unfold sgnV; repeat (first | omega | split)
theorem dig_rng {tx : Nat → Int} {a : Nat} : ∀ k, (∀ i, i < k → 48 ≤ tx (a + i) ∧ tx (a + i) ≤ 57) → 0 ≤ dig tx a k ∧ dig tx a k < 10 ^ k := by
  intro k
  induction k with
  | zero => intro _; exact ⟨Int.le_refl _, by show (0 : Int) < 1; omega⟩
  | succ k ih =>
    intro h
    have h1 := ih (fun i hi => h i (by omega))
    have h2 := h k (by omega)
    unfold dig
    have : (10 : Int) ^ (k + 1) = 10 * 10 ^ k := by rw [Int.pow_succ]; omega
    omega
theorem tok_le (tx : Nat → Int) (n p : Nat) (hp : p ≤ n) : p ≤ (tokV tx n p).2.1 ∧ (tokV tx n p).2.1 ≤ (tokV tx n p).2.2.1 ∧ (tokV tx n p).2.2.1 ≤ n ∧ ((tokV tx n p).1 ≠ 24 → (tokV tx n p).2.1 < (tokV tx n p).2.2.1) ∧ (0 ≤ (tokV tx n p).1 ∧ (tokV tx n p).1 ≤ 36) ∧ ((tokV tx n p).1 = 23 → 0 ≤ (tokV tx n p).2.2.2 ∧ (tokV tx n p).2.2.2 ≤ 999) := by
  have h1 := rE_le isSp tx n p
  have h1' := h1.2 hp
  unfold tokV
  generalize rE isSp tx n p = a at h1 h1' ⊢
  split
  · exact ⟨h1.1, Nat.le_refl _, h1', fun z => absurd rfl z, ⟨by show (0 : Int) ≤ 24; decide, by show (24 : Int) ≤ 36; decide⟩, fun z => absurd z (by show ¬ (24 : Int) = 23; decide)⟩
  · rename_i hn
    split
    · rename_i hs
      have h2 := rE_le isSm tx n (a + 1)
      rw [rE_in (by omega) hs]
      have h3 := keyV_rng tx a (rE isSm tx n (a + 1))
      exact ⟨h1.1, by dsimp only; omega, h2.2 (by omega), fun _ => by dsimp only; omega, ⟨h3.1, by dsimp only; omega⟩, fun z => by have : keyV tx a (rE isSm tx n (a + 1)) = 23 := z; omega⟩
    · split
      · rename_i hd
        have h2 := rE_le isDg tx n (a + 1)
        have h5 : ∀ i, i < rE isDg tx n a - a → 48 ≤ tx (a + i) ∧ tx (a + i) ≤ 57 := fun i hi => of_decide_eq_true (runE_all isDg tx n (n - a) a (a + i) (by omega) (by unfold rE at hi; omega)).1
        have h6 := dig_rng (tx := tx) (a := a) (min 3 (rE isDg tx n a - a)) (fun i hi => h5 i (by omega))
        rw [rE_in (by omega) hd] at h6 ⊢
        have h2' := h2.2 (by omega)
        refine ⟨h1.1, by dsimp only; omega, h2', fun _ => by dsimp only; omega, ⟨by dsimp only; split <;> decide, by dsimp only; split <;> decide⟩, fun z => ⟨h6.1, ?_⟩⟩
        have h7 : min 3 (rE isDg tx n (a + 1) - a) ≤ 3 := by omega
        have h8 : (10 : Int) ^ min 3 (rE isDg tx n (a + 1) - a) ≤ 1000 := by
          generalize min 3 (rE isDg tx n (a + 1) - a) = k at h7
          rcases (show k = 0 ∨ k = 1 ∨ k = 2 ∨ k = 3 by omega) with rfl | rfl | rfl | rfl <;> decide
        dsimp only
        omega
      · have h3 := sgnV_rng (tx a)
        exact ⟨h1.1, by dsimp only; omega, by dsimp only; omega, fun _ => by dsimp only; omega, ⟨by dsimp only; omega, by dsimp only; omega⟩, fun z => by have : sgnV (tx a) = 23 := z; omega⟩
theorem kw_tab : ∀ n, n < 19 → chS 19 (kwP.getD n 0 + (kwT.getD n []).length) = 32 ∧ kwP.getD (n + 1) 0 = kwP.getD n 0 + (kwT.getD n []).length + 1 ∧ kwP.getD n 0 + (kwT.getD n []).length + 1 ≤ 97 ∧ (kwT.getD n []).length ≤ 6 ∧ ∀ i, i < (kwT.getD n []).length → chS 19 (kwP.getD n 0 + i) = ((kwT.getD n []).getD i 0 : Nat) ∧ ¬ ((kwT.getD n []).getD i 0) = 32 := by decide +kernel
theorem kw_end : kwP.getD 19 0 = lenS.getD 19 0 ∧ kwP.getD 0 0 = 1 ∧ lenS.getD 19 0 = 97 := by decide +kernel
