/-! ===== the class: what is read, beside the row ===== -/
def LR (m : Mem) (f : Row) (l : Nat) : Prop := m 5 l = f (22 + l) ∧ m 24 l = f (25 + l) ∧ m 15 l = f (60 + l) ∧ m 16 l = f (63 + l) ∧ m 17 l = f (66 + l) ∧ m 18 l = f (69 + l)
def PR (m : Mem) (f : Row) (p : Nat) : Prop := m 6 p = f (28 + p) ∧ m 7 p = f (36 + p) ∧ m 8 p = f (44 + p) ∧ m 9 p = f (52 + p) ∧ m 19 p = f (72 + p) ∧ m 20 p = f (80 + p) ∧ m 21 p = f (88 + p)
def WR (m : Mem) (f : Row) (law c : Nat) : Prop := m c 0 = f (4 + law) ∧ (f (4 + law) = 1 → ∃ cs : List Int, LwR m c cs [] ∧ (cs.length : Int) = f (8 + law) ∧ ∀ k, k < cs.length → cs.getD k 0 = codC law (f (458 + (f (6 + law)).toNat + k)))
def RC (m : Mem) (f : Row) (L P : Nat) : Prop := (m 3 0 = f 1 ∧ m 3 1 = f 0 ∧ m 3 2 = f 2 ∧ m 3 3 = f 3) ∧ (∀ j, j < 12 → m 4 j = f (10 + j)) ∧ (∀ l, l < L → LR m f l) ∧ (∀ p, p < P → PR m f p) ∧ WR m f 0 25 ∧ WR m f 1 29
theorem WR.up {m : Mem} {f : Row} {law c : Nat} (h : WR m f law c) (hl : law < 2) (hc : c = 25 ∨ c = 29) {a k j : Nat} (x y : Int) (ha : a < 25) (hj : 10 ≤ j ∧ j < 458) : WR (up m a k x) (upg f j y) law c := by
  unfold WR
  rw [upg_ne _ _ (by omega), upg_ne _ _ (by omega), upg_ne _ _ (by omega), up_o _ _ (by omega)]
  refine ⟨h.1, fun z => ?_⟩
  obtain ⟨cs, h1, h2, h3⟩ := h.2 z
  exact ⟨cs, h1.cod (by rw [up_o _ _ (by omega)]) (by rw [up_na _ _ (by omega)]) (by rw [up_o _ _ (by omega)]) (by rw [up_na _ _ (by omega)]), h2, fun k hk => by rw [upg_ne _ _ (by omega)]; exact h3 k hk⟩
theorem WR.same {m m' : Mem} {f : Row} {law c : Nat} (h : WR m f law c) (h0 : m' c = m c) (h2 : m' (c + 2) = m (c + 2)) (h3 : m' (c + 3) = m (c + 3)) : WR m' f law c := by
  unfold WR
  rw [h0]
  refine ⟨h.1, fun z => ?_⟩
  obtain ⟨cs, q1, q2, q3⟩ := h.2 z
  exact ⟨cs, q1.cod (by rw [h0]) h2 (by rw [h0]) h3, q2, q3⟩
theorem RC.keep {m m' : Mem} {f : Row} {L P : Nat} (h : RC m f L P) (e : ∀ a, (3 ≤ a ∧ a ≤ 21) ∨ (24 ≤ a ∧ a ≤ 32) → m' a = m a) : RC m' f L P := by
  obtain ⟨h1, h2, h3, h4, h5, h6⟩ := h
  refine ⟨by rw [e 3 (by omega)]; exact h1, fun j hj => by rw [e 4 (by omega)]; exact h2 j hj, fun l hl => ?_, fun p hp => ?_, h5.same (e _ (by omega)) (e _ (by omega)) (e _ (by omega)), h6.same (e _ (by omega)) (e _ (by omega)) (e _ (by omega))⟩
  · unfold LR; rw [e 5 (by omega), e 24 (by omega), e 15 (by omega), e 16 (by omega), e 17 (by omega), e 18 (by omega)]; exact h3 l hl
  · unfold PR; rw [e 6 (by omega), e 7 (by omega), e 8 (by omega), e 9 (by omega), e 19 (by omega), e 20 (by omega), e 21 (by omega)]; exact h4 p hp
theorem sTf_f {a k : Nat} (h1 : a ≠ 2) (h2 : a ≠ 22) : sTf a k = false := by unfold sTf; simp [h1, h2]
theorem RC.tf {m m' : Mem} {f : Row} {L P : Nat} (h : RC m f L P) (hf : Fr sTf m m') : RC m' f L P := h.keep (fun a ha => hf.row a (fun k => sTf_f (by omega) (by omega)))
theorem upg_id {f : Row} {j : Nat} {x : Int} (h : f j = x) : upg f j x = f := by
  funext i
  unfold upg
  split
  · rename_i e; rw [e, h]
  · rfl
theorem RC_5 {m : Mem} {f : Row} {L P : Nat} (h : RC m f L P) (hL : L ≤ 3) (hP : P ≤ 8) {k : Nat} (hk : k < 3) (x : Int) : RC (up m 5 k x) (upg f (22 + k) x) L P := by
  obtain ⟨h1, h2, h3, h4, h5, h6⟩ := h
  refine ⟨?_, fun j hj => ?_, fun l hl => ?_, fun p hp => ?_, h5.up (by decide) (Or.inl rfl) x x (by decide) (by omega), h6.up (by decide) (Or.inr rfl) x x (by decide) (by omega)⟩
  · rw [up_o _ _ (by decide), up_o _ _ (by decide), up_o _ _ (by decide), up_o _ _ (by decide), upg_ne _ _ (by omega), upg_ne _ _ (by omega), upg_ne _ _ (by omega), upg_ne _ _ (by omega)]; exact h1
  · rw [up_o _ _ (by decide), upg_ne _ _ (by omega)]; exact h2 j hj
  · obtain ⟨q5, q24, q15, q16, q17, q18⟩ := h3 l hl
    refine ⟨?_, ?_, ?_, ?_, ?_, ?_⟩
    · by_cases e : l = k
      · subst e; rw [up_eq, upg_eq]
      · rw [up_k _ _ e, upg_ne _ _ (by omega)]; exact q5
    · rw [up_o _ _ (by decide), upg_ne _ _ (by omega)]; exact q24
    · rw [up_o _ _ (by decide), upg_ne _ _ (by omega)]; exact q15
    · rw [up_o _ _ (by decide), upg_ne _ _ (by omega)]; exact q16
    · rw [up_o _ _ (by decide), upg_ne _ _ (by omega)]; exact q17
    · rw [up_o _ _ (by decide), upg_ne _ _ (by omega)]; exact q18
  · obtain ⟨q6, q7, q8, q9, q19, q20, q21⟩ := h4 p hp
    refine ⟨?_, ?_, ?_, ?_, ?_, ?_, ?_⟩
    · rw [up_o _ _ (by decide), upg_ne _ _ (by omega)]; exact q6
    · rw [up_o _ _ (by decide), upg_ne _ _ (by omega)]; exact q7
    · rw [up_o _ _ (by decide), upg_ne _ _ (by omega)]; exact q8
    · rw [up_o _ _ (by decide), upg_ne _ _ (by omega)]; exact q9
    · rw [up_o _ _ (by decide), upg_ne _ _ (by omega)]; exact q19
    · rw [up_o _ _ (by decide), upg_ne _ _ (by omega)]; exact q20
    · rw [up_o _ _ (by decide), upg_ne _ _ (by omega)]; exact q21
theorem RC_24 {m : Mem} {f : Row} {L P : Nat} (h : RC m f L P) (hL : L ≤ 3) (hP : P ≤ 8) {k : Nat} (hk : k < 3) (x : Int) : RC (up m 24 k x) (upg f (25 + k) x) L P := by
  obtain ⟨h1, h2, h3, h4, h5, h6⟩ := h
  refine ⟨?_, fun j hj => ?_, fun l hl => ?_, fun p hp => ?_, h5.up (by decide) (Or.inl rfl) x x (by decide) (by omega), h6.up (by decide) (Or.inr rfl) x x (by decide) (by omega)⟩
  · rw [up_o _ _ (by decide), up_o _ _ (by decide), up_o _ _ (by decide), up_o _ _ (by decide), upg_ne _ _ (by omega), upg_ne _ _ (by omega), upg_ne _ _ (by omega), upg_ne _ _ (by omega)]; exact h1
  · rw [up_o _ _ (by decide), upg_ne _ _ (by omega)]; exact h2 j hj
  · obtain ⟨q5, q24, q15, q16, q17, q18⟩ := h3 l hl
    refine ⟨?_, ?_, ?_, ?_, ?_, ?_⟩
    · rw [up_o _ _ (by decide), upg_ne _ _ (by omega)]; exact q5
    · by_cases e : l = k
      · subst e; rw [up_eq, upg_eq]
      · rw [up_k _ _ e, upg_ne _ _ (by omega)]; exact q24
    · rw [up_o _ _ (by decide), upg_ne _ _ (by omega)]; exact q15
    · rw [up_o _ _ (by decide), upg_ne _ _ (by omega)]; exact q16
    · rw [up_o _ _ (by decide), upg_ne _ _ (by omega)]; exact q17
    · rw [up_o _ _ (by decide), upg_ne _ _ (by omega)]; exact q18
  · obtain ⟨q6, q7, q8, q9, q19, q20, q21⟩ := h4 p hp
    refine ⟨?_, ?_, ?_, ?_, ?_, ?_, ?_⟩
    · rw [up_o _ _ (by decide), upg_ne _ _ (by omega)]; exact q6
    · rw [up_o _ _ (by decide), upg_ne _ _ (by omega)]; exact q7
    · rw [up_o _ _ (by decide), upg_ne _ _ (by omega)]; exact q8
    · rw [up_o _ _ (by decide), upg_ne _ _ (by omega)]; exact q9
    · rw [up_o _ _ (by decide), upg_ne _ _ (by omega)]; exact q19
    · rw [up_o _ _ (by decide), upg_ne _ _ (by omega)]; exact q20
    · rw [up_o _ _ (by decide), upg_ne _ _ (by omega)]; exact q21
theorem RC_15 {m : Mem} {f : Row} {L P : Nat} (h : RC m f L P) (hL : L ≤ 3) (hP : P ≤ 8) {k : Nat} (hk : k < 3) (x : Int) : RC (up m 15 k x) (upg f (60 + k) x) L P := by
  obtain ⟨h1, h2, h3, h4, h5, h6⟩ := h
  refine ⟨?_, fun j hj => ?_, fun l hl => ?_, fun p hp => ?_, h5.up (by decide) (Or.inl rfl) x x (by decide) (by omega), h6.up (by decide) (Or.inr rfl) x x (by decide) (by omega)⟩
  · rw [up_o _ _ (by decide), up_o _ _ (by decide), up_o _ _ (by decide), up_o _ _ (by decide), upg_ne _ _ (by omega), upg_ne _ _ (by omega), upg_ne _ _ (by omega), upg_ne _ _ (by omega)]; exact h1
  · rw [up_o _ _ (by decide), upg_ne _ _ (by omega)]; exact h2 j hj
  · obtain ⟨q5, q24, q15, q16, q17, q18⟩ := h3 l hl
    refine ⟨?_, ?_, ?_, ?_, ?_, ?_⟩
    · rw [up_o _ _ (by decide), upg_ne _ _ (by omega)]; exact q5
    · rw [up_o _ _ (by decide), upg_ne _ _ (by omega)]; exact q24
    · by_cases e : l = k
      · subst e; rw [up_eq, upg_eq]
      · rw [up_k _ _ e, upg_ne _ _ (by omega)]; exact q15
    · rw [up_o _ _ (by decide), upg_ne _ _ (by omega)]; exact q16
    · rw [up_o _ _ (by decide), upg_ne _ _ (by omega)]; exact q17
    · rw [up_o _ _ (by decide), upg_ne _ _ (by omega)]; exact q18
  · obtain ⟨q6, q7, q8, q9, q19, q20, q21⟩ := h4 p hp
    refine ⟨?_, ?_, ?_, ?_, ?_, ?_, ?_⟩
    · rw [up_o _ _ (by decide), upg_ne _ _ (by omega)]; exact q6
    · rw [up_o _ _ (by decide), upg_ne _ _ (by omega)]; exact q7
    · rw [up_o _ _ (by decide), upg_ne _ _ (by omega)]; exact q8
    · rw [up_o _ _ (by decide), upg_ne _ _ (by omega)]; exact q9
    · rw [up_o _ _ (by decide), upg_ne _ _ (by omega)]; exact q19
    · rw [up_o _ _ (by decide), upg_ne _ _ (by omega)]; exact q20
    · rw [up_o _ _ (by decide), upg_ne _ _ (by omega)]; exact q21
theorem RC_16 {m : Mem} {f : Row} {L P : Nat} (h : RC m f L P) (hL : L ≤ 3) (hP : P ≤ 8) {k : Nat} (hk : k < 3) (x : Int) : RC (up m 16 k x) (upg f (63 + k) x) L P := by
  obtain ⟨h1, h2, h3, h4, h5, h6⟩ := h
  refine ⟨?_, fun j hj => ?_, fun l hl => ?_, fun p hp => ?_, h5.up (by decide) (Or.inl rfl) x x (by decide) (by omega), h6.up (by decide) (Or.inr rfl) x x (by decide) (by omega)⟩
  · rw [up_o _ _ (by decide), up_o _ _ (by decide), up_o _ _ (by decide), up_o _ _ (by decide), upg_ne _ _ (by omega), upg_ne _ _ (by omega), upg_ne _ _ (by omega), upg_ne _ _ (by omega)]; exact h1
  · rw [up_o _ _ (by decide), upg_ne _ _ (by omega)]; exact h2 j hj
  · obtain ⟨q5, q24, q15, q16, q17, q18⟩ := h3 l hl
    refine ⟨?_, ?_, ?_, ?_, ?_, ?_⟩
    · rw [up_o _ _ (by decide), upg_ne _ _ (by omega)]; exact q5
    · rw [up_o _ _ (by decide), upg_ne _ _ (by omega)]; exact q24
    · rw [up_o _ _ (by decide), upg_ne _ _ (by omega)]; exact q15
    · by_cases e : l = k
      · subst e; rw [up_eq, upg_eq]
      · rw [up_k _ _ e, upg_ne _ _ (by omega)]; exact q16
    · rw [up_o _ _ (by decide), upg_ne _ _ (by omega)]; exact q17
    · rw [up_o _ _ (by decide), upg_ne _ _ (by omega)]; exact q18
  · obtain ⟨q6, q7, q8, q9, q19, q20, q21⟩ := h4 p hp
    refine ⟨?_, ?_, ?_, ?_, ?_, ?_, ?_⟩
    · rw [up_o _ _ (by decide), upg_ne _ _ (by omega)]; exact q6
    · rw [up_o _ _ (by decide), upg_ne _ _ (by omega)]; exact q7
    · rw [up_o _ _ (by decide), upg_ne _ _ (by omega)]; exact q8
    · rw [up_o _ _ (by decide), upg_ne _ _ (by omega)]; exact q9
    · rw [up_o _ _ (by decide), upg_ne _ _ (by omega)]; exact q19
    · rw [up_o _ _ (by decide), upg_ne _ _ (by omega)]; exact q20
    · rw [up_o _ _ (by decide), upg_ne _ _ (by omega)]; exact q21
theorem RC_17 {m : Mem} {f : Row} {L P : Nat} (h : RC m f L P) (hL : L ≤ 3) (hP : P ≤ 8) {k : Nat} (hk : k < 3) (x : Int) : RC (up m 17 k x) (upg f (66 + k) x) L P := by
  obtain ⟨h1, h2, h3, h4, h5, h6⟩ := h
  refine ⟨?_, fun j hj => ?_, fun l hl => ?_, fun p hp => ?_, h5.up (by decide) (Or.inl rfl) x x (by decide) (by omega), h6.up (by decide) (Or.inr rfl) x x (by decide) (by omega)⟩
  · rw [up_o _ _ (by decide), up_o _ _ (by decide), up_o _ _ (by decide), up_o _ _ (by decide), upg_ne _ _ (by omega), upg_ne _ _ (by omega), upg_ne _ _ (by omega), upg_ne _ _ (by omega)]; exact h1
  · rw [up_o _ _ (by decide), upg_ne _ _ (by omega)]; exact h2 j hj
  · obtain ⟨q5, q24, q15, q16, q17, q18⟩ := h3 l hl
    refine ⟨?_, ?_, ?_, ?_, ?_, ?_⟩
    · rw [up_o _ _ (by decide), upg_ne _ _ (by omega)]; exact q5
    · rw [up_o _ _ (by decide), upg_ne _ _ (by omega)]; exact q24
    · rw [up_o _ _ (by decide), upg_ne _ _ (by omega)]; exact q15
    · rw [up_o _ _ (by decide), upg_ne _ _ (by omega)]; exact q16
    · by_cases e : l = k
      · subst e; rw [up_eq, upg_eq]
      · rw [up_k _ _ e, upg_ne _ _ (by omega)]; exact q17
    · rw [up_o _ _ (by decide), upg_ne _ _ (by omega)]; exact q18
  · obtain ⟨q6, q7, q8, q9, q19, q20, q21⟩ := h4 p hp
    refine ⟨?_, ?_, ?_, ?_, ?_, ?_, ?_⟩
    · rw [up_o _ _ (by decide), upg_ne _ _ (by omega)]; exact q6
    · rw [up_o _ _ (by decide), upg_ne _ _ (by omega)]; exact q7
    · rw [up_o _ _ (by decide), upg_ne _ _ (by omega)]; exact q8
    · rw [up_o _ _ (by decide), upg_ne _ _ (by omega)]; exact q9
    · rw [up_o _ _ (by decide), upg_ne _ _ (by omega)]; exact q19
    · rw [up_o _ _ (by decide), upg_ne _ _ (by omega)]; exact q20
    · rw [up_o _ _ (by decide), upg_ne _ _ (by omega)]; exact q21
theorem RC_18 {m : Mem} {f : Row} {L P : Nat} (h : RC m f L P) (hL : L ≤ 3) (hP : P ≤ 8) {k : Nat} (hk : k < 3) (x : Int) : RC (up m 18 k x) (upg f (69 + k) x) L P := by
  obtain ⟨h1, h2, h3, h4, h5, h6⟩ := h
  refine ⟨?_, fun j hj => ?_, fun l hl => ?_, fun p hp => ?_, h5.up (by decide) (Or.inl rfl) x x (by decide) (by omega), h6.up (by decide) (Or.inr rfl) x x (by decide) (by omega)⟩
  · rw [up_o _ _ (by decide), up_o _ _ (by decide), up_o _ _ (by decide), up_o _ _ (by decide), upg_ne _ _ (by omega), upg_ne _ _ (by omega), upg_ne _ _ (by omega), upg_ne _ _ (by omega)]; exact h1
  · rw [up_o _ _ (by decide), upg_ne _ _ (by omega)]; exact h2 j hj
  · obtain ⟨q5, q24, q15, q16, q17, q18⟩ := h3 l hl
    refine ⟨?_, ?_, ?_, ?_, ?_, ?_⟩
    · rw [up_o _ _ (by decide), upg_ne _ _ (by omega)]; exact q5
    · rw [up_o _ _ (by decide), upg_ne _ _ (by omega)]; exact q24
    · rw [up_o _ _ (by decide), upg_ne _ _ (by omega)]; exact q15
    · rw [up_o _ _ (by decide), upg_ne _ _ (by omega)]; exact q16
    · rw [up_o _ _ (by decide), upg_ne _ _ (by omega)]; exact q17
    · by_cases e : l = k
      · subst e; rw [up_eq, upg_eq]
      · rw [up_k _ _ e, upg_ne _ _ (by omega)]; exact q18
  · obtain ⟨q6, q7, q8, q9, q19, q20, q21⟩ := h4 p hp
    refine ⟨?_, ?_, ?_, ?_, ?_, ?_, ?_⟩
    · rw [up_o _ _ (by decide), upg_ne _ _ (by omega)]; exact q6
    · rw [up_o _ _ (by decide), upg_ne _ _ (by omega)]; exact q7
    · rw [up_o _ _ (by decide), upg_ne _ _ (by omega)]; exact q8
    · rw [up_o _ _ (by decide), upg_ne _ _ (by omega)]; exact q9
    · rw [up_o _ _ (by decide), upg_ne _ _ (by omega)]; exact q19
    · rw [up_o _ _ (by decide), upg_ne _ _ (by omega)]; exact q20
    · rw [up_o _ _ (by decide), upg_ne _ _ (by omega)]; exact q21
theorem RC_6 {m : Mem} {f : Row} {L P : Nat} (h : RC m f L P) (hL : L ≤ 3) (hP : P ≤ 8) {k : Nat} (hk : k < 8) (x : Int) : RC (up m 6 k x) (upg f (28 + k) x) L P := by
  obtain ⟨h1, h2, h3, h4, h5, h6⟩ := h
  refine ⟨?_, fun j hj => ?_, fun l hl => ?_, fun p hp => ?_, h5.up (by decide) (Or.inl rfl) x x (by decide) (by omega), h6.up (by decide) (Or.inr rfl) x x (by decide) (by omega)⟩
  · rw [up_o _ _ (by decide), up_o _ _ (by decide), up_o _ _ (by decide), up_o _ _ (by decide), upg_ne _ _ (by omega), upg_ne _ _ (by omega), upg_ne _ _ (by omega), upg_ne _ _ (by omega)]; exact h1
  · rw [up_o _ _ (by decide), upg_ne _ _ (by omega)]; exact h2 j hj
  · obtain ⟨q5, q24, q15, q16, q17, q18⟩ := h3 l hl
    refine ⟨?_, ?_, ?_, ?_, ?_, ?_⟩
    · rw [up_o _ _ (by decide), upg_ne _ _ (by omega)]; exact q5
    · rw [up_o _ _ (by decide), upg_ne _ _ (by omega)]; exact q24
    · rw [up_o _ _ (by decide), upg_ne _ _ (by omega)]; exact q15
    · rw [up_o _ _ (by decide), upg_ne _ _ (by omega)]; exact q16
    · rw [up_o _ _ (by decide), upg_ne _ _ (by omega)]; exact q17
    · rw [up_o _ _ (by decide), upg_ne _ _ (by omega)]; exact q18
  · obtain ⟨q6, q7, q8, q9, q19, q20, q21⟩ := h4 p hp
    refine ⟨?_, ?_, ?_, ?_, ?_, ?_, ?_⟩
    · by_cases e : p = k
      · subst e; rw [up_eq, upg_eq]
      · rw [up_k _ _ e, upg_ne _ _ (by omega)]; exact q6
    · rw [up_o _ _ (by decide), upg_ne _ _ (by omega)]; exact q7
    · rw [up_o _ _ (by decide), upg_ne _ _ (by omega)]; exact q8
    · rw [up_o _ _ (by decide), upg_ne _ _ (by omega)]; exact q9
    · rw [up_o _ _ (by decide), upg_ne _ _ (by omega)]; exact q19
    · rw [up_o _ _ (by decide), upg_ne _ _ (by omega)]; exact q20
    · rw [up_o _ _ (by decide), upg_ne _ _ (by omega)]; exact q21
theorem RC_7 {m : Mem} {f : Row} {L P : Nat} (h : RC m f L P) (hL : L ≤ 3) (hP : P ≤ 8) {k : Nat} (hk : k < 8) (x : Int) : RC (up m 7 k x) (upg f (36 + k) x) L P := by
  obtain ⟨h1, h2, h3, h4, h5, h6⟩ := h
  refine ⟨?_, fun j hj => ?_, fun l hl => ?_, fun p hp => ?_, h5.up (by decide) (Or.inl rfl) x x (by decide) (by omega), h6.up (by decide) (Or.inr rfl) x x (by decide) (by omega)⟩
  · rw [up_o _ _ (by decide), up_o _ _ (by decide), up_o _ _ (by decide), up_o _ _ (by decide), upg_ne _ _ (by omega), upg_ne _ _ (by omega), upg_ne _ _ (by omega), upg_ne _ _ (by omega)]; exact h1
  · rw [up_o _ _ (by decide), upg_ne _ _ (by omega)]; exact h2 j hj
  · obtain ⟨q5, q24, q15, q16, q17, q18⟩ := h3 l hl
    refine ⟨?_, ?_, ?_, ?_, ?_, ?_⟩
    · rw [up_o _ _ (by decide), upg_ne _ _ (by omega)]; exact q5
    · rw [up_o _ _ (by decide), upg_ne _ _ (by omega)]; exact q24
    · rw [up_o _ _ (by decide), upg_ne _ _ (by omega)]; exact q15
    · rw [up_o _ _ (by decide), upg_ne _ _ (by omega)]; exact q16
    · rw [up_o _ _ (by decide), upg_ne _ _ (by omega)]; exact q17
    · rw [up_o _ _ (by decide), upg_ne _ _ (by omega)]; exact q18
  · obtain ⟨q6, q7, q8, q9, q19, q20, q21⟩ := h4 p hp
    refine ⟨?_, ?_, ?_, ?_, ?_, ?_, ?_⟩
    · rw [up_o _ _ (by decide), upg_ne _ _ (by omega)]; exact q6
    · by_cases e : p = k
      · subst e; rw [up_eq, upg_eq]
      · rw [up_k _ _ e, upg_ne _ _ (by omega)]; exact q7
    · rw [up_o _ _ (by decide), upg_ne _ _ (by omega)]; exact q8
    · rw [up_o _ _ (by decide), upg_ne _ _ (by omega)]; exact q9
    · rw [up_o _ _ (by decide), upg_ne _ _ (by omega)]; exact q19
    · rw [up_o _ _ (by decide), upg_ne _ _ (by omega)]; exact q20
    · rw [up_o _ _ (by decide), upg_ne _ _ (by omega)]; exact q21
theorem RC_8 {m : Mem} {f : Row} {L P : Nat} (h : RC m f L P) (hL : L ≤ 3) (hP : P ≤ 8) {k : Nat} (hk : k < 8) (x : Int) : RC (up m 8 k x) (upg f (44 + k) x) L P := by
  obtain ⟨h1, h2, h3, h4, h5, h6⟩ := h
  refine ⟨?_, fun j hj => ?_, fun l hl => ?_, fun p hp => ?_, h5.up (by decide) (Or.inl rfl) x x (by decide) (by omega), h6.up (by decide) (Or.inr rfl) x x (by decide) (by omega)⟩
  · rw [up_o _ _ (by decide), up_o _ _ (by decide), up_o _ _ (by decide), up_o _ _ (by decide), upg_ne _ _ (by omega), upg_ne _ _ (by omega), upg_ne _ _ (by omega), upg_ne _ _ (by omega)]; exact h1
  · rw [up_o _ _ (by decide), upg_ne _ _ (by omega)]; exact h2 j hj
  · obtain ⟨q5, q24, q15, q16, q17, q18⟩ := h3 l hl
    refine ⟨?_, ?_, ?_, ?_, ?_, ?_⟩
    · rw [up_o _ _ (by decide), upg_ne _ _ (by omega)]; exact q5
    · rw [up_o _ _ (by decide), upg_ne _ _ (by omega)]; exact q24
    · rw [up_o _ _ (by decide), upg_ne _ _ (by omega)]; exact q15
    · rw [up_o _ _ (by decide), upg_ne _ _ (by omega)]; exact q16
    · rw [up_o _ _ (by decide), upg_ne _ _ (by omega)]; exact q17
    · rw [up_o _ _ (by decide), upg_ne _ _ (by omega)]; exact q18
  · obtain ⟨q6, q7, q8, q9, q19, q20, q21⟩ := h4 p hp
    refine ⟨?_, ?_, ?_, ?_, ?_, ?_, ?_⟩
    · rw [up_o _ _ (by decide), upg_ne _ _ (by omega)]; exact q6
    · rw [up_o _ _ (by decide), upg_ne _ _ (by omega)]; exact q7
    · by_cases e : p = k
      · subst e; rw [up_eq, upg_eq]
      · rw [up_k _ _ e, upg_ne _ _ (by omega)]; exact q8
    · rw [up_o _ _ (by decide), upg_ne _ _ (by omega)]; exact q9
    · rw [up_o _ _ (by decide), upg_ne _ _ (by omega)]; exact q19
    · rw [up_o _ _ (by decide), upg_ne _ _ (by omega)]; exact q20
    · rw [up_o _ _ (by decide), upg_ne _ _ (by omega)]; exact q21
theorem RC_9 {m : Mem} {f : Row} {L P : Nat} (h : RC m f L P) (hL : L ≤ 3) (hP : P ≤ 8) {k : Nat} (hk : k < 8) (x : Int) : RC (up m 9 k x) (upg f (52 + k) x) L P := by
  obtain ⟨h1, h2, h3, h4, h5, h6⟩ := h
  refine ⟨?_, fun j hj => ?_, fun l hl => ?_, fun p hp => ?_, h5.up (by decide) (Or.inl rfl) x x (by decide) (by omega), h6.up (by decide) (Or.inr rfl) x x (by decide) (by omega)⟩
  · rw [up_o _ _ (by decide), up_o _ _ (by decide), up_o _ _ (by decide), up_o _ _ (by decide), upg_ne _ _ (by omega), upg_ne _ _ (by omega), upg_ne _ _ (by omega), upg_ne _ _ (by omega)]; exact h1
  · rw [up_o _ _ (by decide), upg_ne _ _ (by omega)]; exact h2 j hj
  · obtain ⟨q5, q24, q15, q16, q17, q18⟩ := h3 l hl
    refine ⟨?_, ?_, ?_, ?_, ?_, ?_⟩
    · rw [up_o _ _ (by decide), upg_ne _ _ (by omega)]; exact q5
    · rw [up_o _ _ (by decide), upg_ne _ _ (by omega)]; exact q24
    · rw [up_o _ _ (by decide), upg_ne _ _ (by omega)]; exact q15
    · rw [up_o _ _ (by decide), upg_ne _ _ (by omega)]; exact q16
    · rw [up_o _ _ (by decide), upg_ne _ _ (by omega)]; exact q17
    · rw [up_o _ _ (by decide), upg_ne _ _ (by omega)]; exact q18
  · obtain ⟨q6, q7, q8, q9, q19, q20, q21⟩ := h4 p hp
    refine ⟨?_, ?_, ?_, ?_, ?_, ?_, ?_⟩
    · rw [up_o _ _ (by decide), upg_ne _ _ (by omega)]; exact q6
    · rw [up_o _ _ (by decide), upg_ne _ _ (by omega)]; exact q7
    · rw [up_o _ _ (by decide), upg_ne _ _ (by omega)]; exact q8
    · by_cases e : p = k
      · subst e; rw [up_eq, upg_eq]
      · rw [up_k _ _ e, upg_ne _ _ (by omega)]; exact q9
    · rw [up_o _ _ (by decide), upg_ne _ _ (by omega)]; exact q19
    · rw [up_o _ _ (by decide), upg_ne _ _ (by omega)]; exact q20
    · rw [up_o _ _ (by decide), upg_ne _ _ (by omega)]; exact q21
theorem RC_19 {m : Mem} {f : Row} {L P : Nat} (h : RC m f L P) (hL : L ≤ 3) (hP : P ≤ 8) {k : Nat} (hk : k < 8) (x : Int) : RC (up m 19 k x) (upg f (72 + k) x) L P := by
  obtain ⟨h1, h2, h3, h4, h5, h6⟩ := h
  refine ⟨?_, fun j hj => ?_, fun l hl => ?_, fun p hp => ?_, h5.up (by decide) (Or.inl rfl) x x (by decide) (by omega), h6.up (by decide) (Or.inr rfl) x x (by decide) (by omega)⟩
  · rw [up_o _ _ (by decide), up_o _ _ (by decide), up_o _ _ (by decide), up_o _ _ (by decide), upg_ne _ _ (by omega), upg_ne _ _ (by omega), upg_ne _ _ (by omega), upg_ne _ _ (by omega)]; exact h1
  · rw [up_o _ _ (by decide), upg_ne _ _ (by omega)]; exact h2 j hj
  · obtain ⟨q5, q24, q15, q16, q17, q18⟩ := h3 l hl
    refine ⟨?_, ?_, ?_, ?_, ?_, ?_⟩
    · rw [up_o _ _ (by decide), upg_ne _ _ (by omega)]; exact q5
    · rw [up_o _ _ (by decide), upg_ne _ _ (by omega)]; exact q24
    · rw [up_o _ _ (by decide), upg_ne _ _ (by omega)]; exact q15
    · rw [up_o _ _ (by decide), upg_ne _ _ (by omega)]; exact q16
    · rw [up_o _ _ (by decide), upg_ne _ _ (by omega)]; exact q17
    · rw [up_o _ _ (by decide), upg_ne _ _ (by omega)]; exact q18
  · obtain ⟨q6, q7, q8, q9, q19, q20, q21⟩ := h4 p hp
    refine ⟨?_, ?_, ?_, ?_, ?_, ?_, ?_⟩
    · rw [up_o _ _ (by decide), upg_ne _ _ (by omega)]; exact q6
    · rw [up_o _ _ (by decide), upg_ne _ _ (by omega)]; exact q7
    · rw [up_o _ _ (by decide), upg_ne _ _ (by omega)]; exact q8
    · rw [up_o _ _ (by decide), upg_ne _ _ (by omega)]; exact q9
    · by_cases e : p = k
      · subst e; rw [up_eq, upg_eq]
      · rw [up_k _ _ e, upg_ne _ _ (by omega)]; exact q19
    · rw [up_o _ _ (by decide), upg_ne _ _ (by omega)]; exact q20
    · rw [up_o _ _ (by decide), upg_ne _ _ (by omega)]; exact q21
theorem RC_20 {m : Mem} {f : Row} {L P : Nat} (h : RC m f L P) (hL : L ≤ 3) (hP : P ≤ 8) {k : Nat} (hk : k < 8) (x : Int) : RC (up m 20 k x) (upg f (80 + k) x) L P := by
  obtain ⟨h1, h2, h3, h4, h5, h6⟩ := h
  refine ⟨?_, fun j hj => ?_, fun l hl => ?_, fun p hp => ?_, h5.up (by decide) (Or.inl rfl) x x (by decide) (by omega), h6.up (by decide) (Or.inr rfl) x x (by decide) (by omega)⟩
  · rw [up_o _ _ (by decide), up_o _ _ (by decide), up_o _ _ (by decide), up_o _ _ (by decide), upg_ne _ _ (by omega), upg_ne _ _ (by omega), upg_ne _ _ (by omega), upg_ne _ _ (by omega)]; exact h1
  · rw [up_o _ _ (by decide), upg_ne _ _ (by omega)]; exact h2 j hj
  · obtain ⟨q5, q24, q15, q16, q17, q18⟩ := h3 l hl
    refine ⟨?_, ?_, ?_, ?_, ?_, ?_⟩
    · rw [up_o _ _ (by decide), upg_ne _ _ (by omega)]; exact q5
    · rw [up_o _ _ (by decide), upg_ne _ _ (by omega)]; exact q24
    · rw [up_o _ _ (by decide), upg_ne _ _ (by omega)]; exact q15
    · rw [up_o _ _ (by decide), upg_ne _ _ (by omega)]; exact q16
    · rw [up_o _ _ (by decide), upg_ne _ _ (by omega)]; exact q17
    · rw [up_o _ _ (by decide), upg_ne _ _ (by omega)]; exact q18
  · obtain ⟨q6, q7, q8, q9, q19, q20, q21⟩ := h4 p hp
    refine ⟨?_, ?_, ?_, ?_, ?_, ?_, ?_⟩
    · rw [up_o _ _ (by decide), upg_ne _ _ (by omega)]; exact q6
    · rw [up_o _ _ (by decide), upg_ne _ _ (by omega)]; exact q7
    · rw [up_o _ _ (by decide), upg_ne _ _ (by omega)]; exact q8
    · rw [up_o _ _ (by decide), upg_ne _ _ (by omega)]; exact q9
    · rw [up_o _ _ (by decide), upg_ne _ _ (by omega)]; exact q19
    · by_cases e : p = k
      · subst e; rw [up_eq, upg_eq]
      · rw [up_k _ _ e, upg_ne _ _ (by omega)]; exact q20
    · rw [up_o _ _ (by decide), upg_ne _ _ (by omega)]; exact q21
theorem RC_21 {m : Mem} {f : Row} {L P : Nat} (h : RC m f L P) (hL : L ≤ 3) (hP : P ≤ 8) {k : Nat} (hk : k < 8) (x : Int) : RC (up m 21 k x) (upg f (88 + k) x) L P := by
  obtain ⟨h1, h2, h3, h4, h5, h6⟩ := h
  refine ⟨?_, fun j hj => ?_, fun l hl => ?_, fun p hp => ?_, h5.up (by decide) (Or.inl rfl) x x (by decide) (by omega), h6.up (by decide) (Or.inr rfl) x x (by decide) (by omega)⟩
  · rw [up_o _ _ (by decide), up_o _ _ (by decide), up_o _ _ (by decide), up_o _ _ (by decide), upg_ne _ _ (by omega), upg_ne _ _ (by omega), upg_ne _ _ (by omega), upg_ne _ _ (by omega)]; exact h1
  · rw [up_o _ _ (by decide), upg_ne _ _ (by omega)]; exact h2 j hj
  · obtain ⟨q5, q24, q15, q16, q17, q18⟩ := h3 l hl
    refine ⟨?_, ?_, ?_, ?_, ?_, ?_⟩
    · rw [up_o _ _ (by decide), upg_ne _ _ (by omega)]; exact q5
    · rw [up_o _ _ (by decide), upg_ne _ _ (by omega)]; exact q24
    · rw [up_o _ _ (by decide), upg_ne _ _ (by omega)]; exact q15
    · rw [up_o _ _ (by decide), upg_ne _ _ (by omega)]; exact q16
    · rw [up_o _ _ (by decide), upg_ne _ _ (by omega)]; exact q17
    · rw [up_o _ _ (by decide), upg_ne _ _ (by omega)]; exact q18
  · obtain ⟨q6, q7, q8, q9, q19, q20, q21⟩ := h4 p hp
    refine ⟨?_, ?_, ?_, ?_, ?_, ?_, ?_⟩
    · rw [up_o _ _ (by decide), upg_ne _ _ (by omega)]; exact q6
    · rw [up_o _ _ (by decide), upg_ne _ _ (by omega)]; exact q7
    · rw [up_o _ _ (by decide), upg_ne _ _ (by omega)]; exact q8
    · rw [up_o _ _ (by decide), upg_ne _ _ (by omega)]; exact q9
    · rw [up_o _ _ (by decide), upg_ne _ _ (by omega)]; exact q19
    · rw [up_o _ _ (by decide), upg_ne _ _ (by omega)]; exact q20
    · by_cases e : p = k
      · subst e; rw [up_eq, upg_eq]
      · rw [up_k _ _ e, upg_ne _ _ (by omega)]; exact q21
theorem RC_4 {m : Mem} {f : Row} {L P : Nat} (h : RC m f L P) (hL : L ≤ 3) (hP : P ≤ 8) {k : Nat} (hk : k < 12) (x : Int) : RC (up m 4 k x) (upg f (10 + k) x) L P := by
  obtain ⟨h1, h2, h3, h4, h5, h6⟩ := h
  refine ⟨?_, fun j hj => ?_, fun l hl => ?_, fun p hp => ?_, h5.up (by decide) (Or.inl rfl) x x (by decide) (by omega), h6.up (by decide) (Or.inr rfl) x x (by decide) (by omega)⟩
  · rw [up_o _ _ (by decide), up_o _ _ (by decide), up_o _ _ (by decide), up_o _ _ (by decide), upg_ne _ _ (by omega), upg_ne _ _ (by omega), upg_ne _ _ (by omega), upg_ne _ _ (by omega)]; exact h1
  · by_cases e : j = k
    · subst e; rw [up_eq, upg_eq]
    · rw [up_k _ _ e, upg_ne _ _ (by omega)]; exact h2 j hj
  · obtain ⟨q5, q24, q15, q16, q17, q18⟩ := h3 l hl
    refine ⟨?_, ?_, ?_, ?_, ?_, ?_⟩
    · rw [up_o _ _ (by decide), upg_ne _ _ (by omega)]; exact q5
    · rw [up_o _ _ (by decide), upg_ne _ _ (by omega)]; exact q24
    · rw [up_o _ _ (by decide), upg_ne _ _ (by omega)]; exact q15
    · rw [up_o _ _ (by decide), upg_ne _ _ (by omega)]; exact q16
    · rw [up_o _ _ (by decide), upg_ne _ _ (by omega)]; exact q17
    · rw [up_o _ _ (by decide), upg_ne _ _ (by omega)]; exact q18
  · obtain ⟨q6, q7, q8, q9, q19, q20, q21⟩ := h4 p hp
    refine ⟨?_, ?_, ?_, ?_, ?_, ?_, ?_⟩
    · rw [up_o _ _ (by decide), upg_ne _ _ (by omega)]; exact q6
    · rw [up_o _ _ (by decide), upg_ne _ _ (by omega)]; exact q7
    · rw [up_o _ _ (by decide), upg_ne _ _ (by omega)]; exact q8
    · rw [up_o _ _ (by decide), upg_ne _ _ (by omega)]; exact q9
    · rw [up_o _ _ (by decide), upg_ne _ _ (by omega)]; exact q19
    · rw [up_o _ _ (by decide), upg_ne _ _ (by omega)]; exact q20
    · rw [up_o _ _ (by decide), upg_ne _ _ (by omega)]; exact q21
def sPc (a k : Nat) : Bool := decide ((a = 2 ∧ (k = 2 ∨ k = 3)) ∨ (3 ≤ a ∧ a ≤ 21) ∨ (a = 22 ∧ 2 ≤ k) ∨ (24 ≤ a ∧ a ≤ 32))
theorem sPc_f {a k : Nat} (h : ¬ ((a = 2 ∧ (k = 2 ∨ k = 3)) ∨ (3 ≤ a ∧ a ≤ 21) ∨ (a = 22 ∧ 2 ≤ k) ∨ (24 ≤ a ∧ a ≤ 32))) : sPc a k = false := decide_eq_false h
theorem sPc_n {a k : Nat} (h : sPc a k = false) : ¬ ((a = 2 ∧ (k = 2 ∨ k = 3)) ∨ (3 ≤ a ∧ a ≤ 21) ∨ (a = 22 ∧ 2 ≤ k) ∨ (24 ≤ a ∧ a ≤ 32)) := of_decide_eq_false h
theorem sPc_tf {a k : Nat} (h : sPc a k = false) : sTf a k = false := by
  have h9 := sPc_n h
  unfold sTf
  by_cases h1 : a = 2
  · subst h1; simp; omega
  · by_cases h2 : a = 22
    · subst h2; simp; omega
    · simp [h1, h2]
theorem Fr.pc {m m' : Mem} (h : Fr sTf m m') : Fr sPc m m' := h.mono (fun a k q => sPc_tf q)
theorem TC.p {m m' : Mem} {tx : Nat → Int} {N : Nat} (h : TC m tx N) (hf : Fr sPc m m') : TC m' tx N := ⟨by rw [hf 22 0 rfl]; exact h.1, by rw [hf 22 1 rfl]; exact h.2.1, fun i hi => by rw [hf 1 i rfl]; exact h.2.2 i hi⟩
theorem OKc.up {m : Mem} {t : Tok} (h : OKc m t) {a : Nat} (k : Nat) (x : Int) (ha : a ≠ 2 ∧ a ≠ 22) : OKc (up m a k x) t := ⟨by rw [up_o _ _ (by omega), up_o _ _ (by omega)]; exact h.1, by unfold TkC; rw [up_na _ _ (by omega)]; exact h.2⟩
theorem BDc.up {m : Mem} {e : Int × Nat} (h : BDc m e) {a : Nat} (k : Nat) (x : Int) (ha : a ≠ 2) : BDc (up m a k x) e := ⟨by rw [up_o _ _ (by omega)]; exact h.1, h.2.1, by rw [up_o _ _ (by omega)]; exact h.2.2⟩
theorem TC.up {m : Mem} {tx : Nat → Int} {N : Nat} (h : TC m tx N) {a : Nat} (k : Nat) (x : Int) (ha : a ≠ 22 ∧ a ≠ 1) : TC (up m a k x) tx N := ⟨by rw [up_o _ _ (by omega)]; exact h.1, by rw [up_o _ _ (by omega)]; exact h.2.1, fun i hi => by rw [up_o _ _ (by omega)]; exact h.2.2 i hi⟩
theorem nu_T {tx : Nat → Int} {N : Nat} {lo hi : Int} {t : Tok} {a : Int × Tok} (hT : tT tx N t) (h : nuS tx N lo hi t = .inr a) : t.1 = 23 ∧ (lo ≤ a.1 ∧ a.1 ≤ hi) ∧ tT tx N a.2 ∧ t.2.1 + 1 ≤ a.2.2.1 ∧ a.2.2.1 ≤ N := by
  obtain ⟨n1, n2, n3, n4, n5⟩ := nu_inv hT.ok h
  exact ⟨n1, n2, by rw [n3]; exact hT.nx, n5, tO_le n4⟩
theorem ea_T {tx : Nat → Int} {N : Nat} {k : Int} {t t' : Tok} (hT : tT tx N t) (hk : ¬ k = 24) (h : eaS tx N k t = .inr t') : t.1 = k ∧ tT tx N t' ∧ t.2.1 + 1 ≤ t'.2.1 ∧ t'.2.1 ≤ N := by
  obtain ⟨n1, n2, n3, n4⟩ := ea_inv hT.ok hk h
  exact ⟨n1, by rw [n2]; exact hT.nx, n4, tO_le n3⟩
