/-! ===== which references stand: what matters of it ===== -/
def isR (x y : Nat) : Bool := ((K x).1 == 0 && fty (K x).2 y == 8) || (decide (5 ≤ (K x).1) && decide (y < (K x).2))
def eqS (n : Nat) (S S' : Nat → Nat → Bool) : Prop := ∀ x, x < n → ∀ y, isR x y = true → S x y = S' x y
theorem fval_cg (Γ : Gm) {S S' : Nat → Nat → Bool} {m : Mem} {a k c : Nat} (h : c = 8 → S a k = S' a k) : fval Γ S m a k c = fval Γ S' m a k c := by
  unfold fval
  by_cases h4 : c = 4
  · rw [if_pos h4, if_pos h4]
  · rw [if_neg h4, if_neg h4]
    by_cases h8 : c = 8
    · rw [if_pos h8, if_pos h8, h h8]
    · rw [if_neg h8, if_neg h8]
theorem arrV_cg {cA : ClassId} {n : Nat} {f f' : Nat → Value} (h : ∀ j, j < n → f j = f' j) : arrV cA n f = arrV cA n f' := by
  have e : (Array.ofFn fun i : Fin n => f i.1) = (Array.ofFn fun i : Fin n => f' i.1) := by
    congr 1
    funext i
    exact h i.1 i.2
  unfold arrV
  first
  | rw [e]
  | (congr 1; exact e)
  | (congr 1; apply Array.ext <;> simp_all)
theorem va_at_cg (Γ : Gm) {S S' : Nat → Nat → Bool} {m : Mem} {H : Heap} {a : Nat} (h : ∀ y, isR a y = true → S a y = S' a y) (hv : va_at (gD Γ) vwCl (gb Γ + a, cellE Γ S m a) H) : va_at (gD Γ) vwCl (gb Γ + a, cellE Γ S' m a) H := by
  by_cases h0 : (K a).1 = 0
  · have e : cellE Γ S m a = cellE Γ S' m a := by
      unfold cellE
      rw [if_pos h0, if_pos h0]
      have : flds Γ S m a (K a).2 = flds Γ S' m a (K a).2 := by
        unfold flds
        apply List.map_congr_left
        intro k _
        exact fval_cg Γ (fun h8 => h k (by unfold isR; simp [h0, h8]))
      rw [this]
    rw [← e]
    exact hv
  · unfold cellE at hv ⊢
    rw [if_neg h0] at hv ⊢
    by_cases h5 : 5 ≤ (K a).1
    · rw [cont_q Γ S m h5] at hv
      rw [cont_q Γ S' m h5]
      have hv : H[gb Γ + a]? = some (vp_cell (gA Γ (K a).1) ((K a).2, .inr (.inr (.inr (.inr (fun j => if S a j = true then some (ad Γ (rf a j)) else none)))))) := hv
      show H[gb Γ + a]? = some (vp_cell (gA Γ (K a).1) ((K a).2, .inr (.inr (.inr (.inr (fun j => if S' a j = true then some (ad Γ (rf a j)) else none))))))
      rw [hv, vp_cell_q, vp_cell_q]
      congr 1
      apply arrV_cg
      intro j hj
      rw [h j (by unfold isR; simp [h5, hj])]
    · have e : cont Γ S m a (K a).1 = cont Γ S' m a (K a).1 := by
        unfold cont
        by_cases h3 : (K a).1 ≤ 3
        · rw [if_pos h3, if_pos h3]
        · have h4 : (K a).1 = 4 := by omega
          rw [if_neg h3, if_neg h3, if_pos h4, if_pos h4]
      rw [← e]
      exact hv
theorem Wo.cg (Γ : Gm) {n : Nat} {S S' : Nat → Nat → Bool} {m : Mem} {H : Heap} (h : eqS n S S') (hW : Wo Γ (n, S) m H) : Wo Γ (n, S') m H := by
  intro k q hq
  by_cases hk : k < n
  · rw [wl_at Γ (n, S') m hk] at hq
    cases hq
    exact va_at_cg Γ (h k hk) (hW k _ (wl_at Γ (n, S) m hk))
  · have : k < (wl Γ (n, S') m).length := (List.getElem?_eq_some_iff.mp hq).1
    unfold wl at this
    simp at this
    omega
theorem Ev.cg {Γ : Gm} {d : Nat} {M : Mth} {b : Bd} {Po : Pos} {pc : Nat} {L st : List Vl} {m : Mem} {n : Nat} {S S' : Nat → Nat → Bool} (h : eqS n S S') (kk : Ev Γ d M b Po pc L st (n, S') m) : Ev Γ d M b Po pc L st (n, S) m := by
  intro hL hst hm p e s mi args below meth cd H locs ls C hS hW hl
  exact kk hL hst hm p e s mi args below meth cd H locs ls C hS ⟨hW.1, Wo.cg Γ h hW.2⟩ hl
/-- all references of the first n cells stand but those that o names -/
def opS (n : Nat) (o : List (Nat × Nat)) : Nat → Nat → Bool := fun x y => decide (x < n) && !(o.contains (x, y))
theorem opS_new (n : Nat) (o : List (Nat × Nat)) (y : Nat) : opS n o n y = false := by unfold opS; simp
theorem opS_all : eqS 223 (opS 223 []) gF.2 := by
  intro x hx y _
  unfold opS gF
  simp [hx]
