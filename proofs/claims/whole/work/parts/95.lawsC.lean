/-! ===== the class: laws ===== -/
def lawC : List Nat := [25, 29]
theorem lawK : ∀ c ∈ lawC, K c = (0, 2) ∧ rf c 2 = c + 1 ∧ rf c 3 = c + 2 ∧ rf c 5 = c + 3 ∧ K (c + 1) = (1, 4) ∧ K (c + 2) = (1, 900) ∧ K (c + 3) = (1, 32) ∧ (c = 25 ∨ c = 29) := by decide +kernel
/-- a law's code and its stack, the top first -/
def LwR (m : Mem) (c : Nat) (cs s : List Int) : Prop := (m c 4 = (cs.length : Int) ∧ ∀ i, i < cs.length → m (c + 2) i = cs.getD i 0) ∧ (m c 6 = (s.length : Int) ∧ ∀ i, i < s.length → m (c + 3) i = s.getD (s.length - 1 - i) 0)
def sEm (c a k : Nat) : Bool := decide ((a = c ∧ (k = 4 ∨ k = 6)) ∨ a = c + 2 ∨ a = c + 3)
theorem sEm_f {c a k : Nat} (h : ¬ ((a = c ∧ (k = 4 ∨ k = 6)) ∨ a = c + 2 ∨ a = c + 3)) : sEm c a k = false := decide_eq_false h
theorem sEm_t {c a k : Nat} (h : (a = c ∧ (k = 4 ∨ k = 6)) ∨ a = c + 2 ∨ a = c + 3) : sEm c a k = true := decide_eq_true h
theorem sEm_n {c a k : Nat} (h : sEm c a k = false) : ¬ ((a = c ∧ (k = 4 ∨ k = 6)) ∨ a = c + 2 ∨ a = c + 3) := of_decide_eq_false h
theorem LwR.emit {m : Mem} {c : Nat} {cs s : List Int} (h : LwR m c cs s) (x : Int) : LwR (up (up m c 4 ((cs.length : Int) + 1)) (c + 2) cs.length x) c (cs ++ [x]) s := by
  obtain ⟨⟨h1, h2⟩, h3, h4⟩ := h
  refine ⟨⟨?_, fun i hi => ?_⟩, ?_, fun i hi => ?_⟩
  · rw [up_o _ _ (by omega), up_eq, List.length_append]; rfl
  · rw [List.length_append] at hi
    by_cases e : i = cs.length
    · subst e; rw [up_eq]; simp
    · have hi' : i < cs.length := by simp at hi; omega
      rw [up_k _ _ e, up_o _ _ (by omega), h2 i hi']
      simp [List.getElem?_append_left hi']
  · rw [up_o _ _ (by omega), up_k _ _ (by decide)]; exact h3
  · rw [up_o _ _ (by omega), up_o _ _ (by omega)]; exact h4 i hi
theorem LwR.push {m : Mem} {c : Nat} {cs s : List Int} (h : LwR m c cs s) (x : Int) : LwR (up (up m c 6 ((s.length : Int) + 1)) (c + 3) s.length x) c cs (x :: s) := by
  obtain ⟨⟨h1, h2⟩, h3, h4⟩ := h
  refine ⟨⟨?_, fun i hi => ?_⟩, ?_, fun i hi => ?_⟩
  · rw [up_o _ _ (by omega), up_k _ _ (by decide)]; exact h1
  · rw [up_o _ _ (by omega), up_o _ _ (by omega)]; exact h2 i hi
  · rw [up_o _ _ (by omega), up_eq, List.length_cons]; rfl
  · rw [List.length_cons] at hi ⊢
    by_cases e : i = s.length
    · subst e; rw [up_eq, show s.length + 1 - 1 - s.length = 0 by omega]; rfl
    · rw [up_k _ _ e, up_o _ _ (by omega), h4 i (by omega), show s.length + 1 - 1 - i = (s.length - 1 - i) + 1 by omega]; rfl
theorem LwR.pop {m : Mem} {c : Nat} {cs s : List Int} {x : Int} (h : LwR m c cs (x :: s)) : m (c + 3) s.length = x ∧ LwR (up m c 6 (s.length : Int)) c cs s := by
  obtain ⟨⟨h1, h2⟩, h3, h4⟩ := h
  rw [List.length_cons] at h3 h4
  refine ⟨?_, ⟨?_, fun i hi => ?_⟩, ?_, fun i hi => ?_⟩
  · rw [h4 s.length (by omega), show s.length + 1 - 1 - s.length = 0 by omega]; rfl
  · rw [up_k _ _ (by decide)]; exact h1
  · rw [up_o _ _ (by omega)]; exact h2 i hi
  · rw [up_eq]
  · rw [up_o _ _ (by omega), h4 i (by omega), show s.length + 1 - 1 - i = (s.length - 1 - i) + 1 by omega]; rfl
theorem LwR.cod {m m' : Mem} {c : Nat} {cs s : List Int} (h : LwR m c cs s) (h1 : m' c 4 = m c 4) (h2 : m' (c + 2) = m (c + 2)) (h3 : m' c 6 = m c 6) (h4 : m' (c + 3) = m (c + 3)) : LwR m' c cs s := by unfold LwR; rw [h1, h2, h3, h4]; exact h
set_option maxRecDepth 4000 in
theorem p_X2_emit {Γ : Gm} {d : Nat} {m : Mem} (c : Nat) (cs s : List Int) (x : Int) (hc : c ∈ lawC) (h : LwR m c cs s) (hn : cs.length < 900) : Ci Γ (d + 0) MX2_emit [rv c, iv x] m (fun r m' => LwR m' c (cs ++ [x]) s ∧ Fr (sEm c) m m') := by
  refine Ci.of moX2_emit rfl rfl (fun hA hM => ?_)
  show Em Γ (d + 0) MX2_emit _ 0 [rv c, iv x] [] m
  obtain ⟨lwK, lwr2, lwr3, lwr5, lwK1, lwK2, lwK3, lwN⟩ := lawK c hc
  refine Ev.aload_n (q := 1) dX2_emit_0 rfl rfl ?_
  refine gI (q := 4) dX2_emit_1 gfX2_26 lwK rfl rfl ?_
  rw [h.1.1]
  refine Ev.aload_n (q := 5) dX2_emit_4 rfl rfl ?_
  refine gR (q := 8) dX2_emit_5 gfX2_23 lwK lwr3 rfl rfl ?_
  refine aLen (q := 9) dX2_emit_8 lwK2 (by decide) (by decide) rfl ?_
  refine Ev.icmp_ge (tgt := 29) (q := 12) dX2_emit_9 (by decide) rfl (fun h1 => ?_) (fun h1 => ?_)
  · skip
    omega
  · skip
    refine Ev.aload_n (q := 13) dX2_emit_12 rfl rfl ?_
    refine gR (q := 16) dX2_emit_13 gfX2_23 lwK lwr3 rfl rfl ?_
    refine Ev.aload_n (q := 17) dX2_emit_16 rfl rfl ?_
    refine Ev.dup (q := 18) dX2_emit_17 (fun z => by cases z) rfl ?_
    refine gI (q := 21) dX2_emit_18 gfX2_26 lwK rfl rfl ?_
    rw [h.1.1]
    refine Ev.dup_x1 (q := 22) dX2_emit_21 (fun z => by cases z) (fun z => by cases z) rfl ?_
    refine Ev.iconst (q := 23) dX2_emit_22 ki_1 rfl ?_
    refine Ev.iadd (q := 24) dX2_emit_23 rfl ?_
    rw [w32_of (by omega) (by omega)]
    refine pI (q := 27) dX2_emit_24 gfX2_26 lwK rfl rfl ?_
    refine Ev.iload_n (q := 28) dX2_emit_27 rfl rfl ?_
    refine sI (q := 29) (k := cs.length) dX2_emit_28 lwK2 (by first | rfl | omega | (simp (disch := omega) only [w32_of]; omega)) (by omega) rfl ?_
    refine rV dX2_emit_29 rfl ?_
    exact ⟨h.emit x, ((Fr.rf _ _).up (sEm_t (by omega))).up (sEm_t (by omega))⟩
set_option maxRecDepth 4000 in
theorem p_X2_push {Γ : Gm} {d : Nat} {m : Mem} (c : Nat) (cs s : List Int) (x : Int) (hc : c ∈ lawC) (h : LwR m c cs s) (hn : s.length < 32) : Ci Γ (d + 0) MX2_push [rv c, iv x] m (fun r m' => LwR m' c cs (x :: s) ∧ Fr (sEm c) m m') := by
  refine Ci.of moX2_push rfl rfl (fun hA hM => ?_)
  show Em Γ (d + 0) MX2_push _ 0 [rv c, iv x] [] m
  obtain ⟨lwK, lwr2, lwr3, lwr5, lwK1, lwK2, lwK3, lwN⟩ := lawK c hc
  refine Ev.aload_n (q := 1) dX2_push_0 rfl rfl ?_
  refine gI (q := 4) dX2_push_1 gfX2_32 lwK rfl rfl ?_
  rw [h.2.1]
  refine Ev.aload_n (q := 5) dX2_push_4 rfl rfl ?_
  refine gR (q := 8) dX2_push_5 gfX2_29 lwK lwr5 rfl rfl ?_
  refine aLen (q := 9) dX2_push_8 lwK3 (by decide) (by decide) rfl ?_
  refine Ev.icmp_ge (tgt := 29) (q := 12) dX2_push_9 (by decide) rfl (fun h1 => ?_) (fun h1 => ?_)
  · skip
    omega
  · skip
    refine Ev.aload_n (q := 13) dX2_push_12 rfl rfl ?_
    refine gR (q := 16) dX2_push_13 gfX2_29 lwK lwr5 rfl rfl ?_
    refine Ev.aload_n (q := 17) dX2_push_16 rfl rfl ?_
    refine Ev.dup (q := 18) dX2_push_17 (fun z => by cases z) rfl ?_
    refine gI (q := 21) dX2_push_18 gfX2_32 lwK rfl rfl ?_
    rw [h.2.1]
    refine Ev.dup_x1 (q := 22) dX2_push_21 (fun z => by cases z) (fun z => by cases z) rfl ?_
    refine Ev.iconst (q := 23) dX2_push_22 ki_1 rfl ?_
    refine Ev.iadd (q := 24) dX2_push_23 rfl ?_
    rw [w32_of (by omega) (by omega)]
    refine pI (q := 27) dX2_push_24 gfX2_32 lwK rfl rfl ?_
    refine Ev.iload_n (q := 28) dX2_push_27 rfl rfl ?_
    refine sI (q := 29) (k := s.length) dX2_push_28 lwK3 (by first | rfl | omega | (simp (disch := omega) only [w32_of]; omega)) (by omega) rfl ?_
    refine rV dX2_push_29 rfl ?_
    exact ⟨h.push x, ((Fr.rf _ _).up (sEm_t (by omega))).up (sEm_t (by omega))⟩
set_option maxRecDepth 4000 in
theorem p_X2_pop {Γ : Gm} {d : Nat} {m : Mem} (c : Nat) (cs s : List Int) (x : Int) (hc : c ∈ lawC) (h : LwR m c cs (x :: s)) (hn : s.length < 32) : Ci Γ (d + 0) MX2_pop [rv c] m (fun r m' => r = x ∧ LwR m' c cs s ∧ Fr (sEm c) m m') := by
  refine Ci.of moX2_pop rfl rfl (fun hA hM => ?_)
  show Em Γ (d + 0) MX2_pop _ 0 [rv c] [] m
  obtain ⟨lwK, lwr2, lwr3, lwr5, lwK1, lwK2, lwK3, lwN⟩ := lawK c hc
  have h6 : m c 6 = ((s.length + 1 : Nat) : Int) := h.2.1
  obtain ⟨p1, p2⟩ := h.pop
  refine Ev.aload_n (q := 1) dX2_pop_0 rfl rfl ?_
  refine gI (q := 4) dX2_pop_1 gfX2_32 lwK rfl rfl ?_
  rw [h6]
  refine Ev.if_le (tgt := 26) (q := 7) dX2_pop_4 (by decide) rfl (fun h1 => ?_) (fun h1 => ?_)
  · skip
    omega
  · skip
    refine Ev.aload_n (q := 8) dX2_pop_7 rfl rfl ?_
    refine gR (q := 11) dX2_pop_8 gfX2_29 lwK lwr5 rfl rfl ?_
    refine Ev.aload_n (q := 12) dX2_pop_11 rfl rfl ?_
    refine Ev.dup (q := 13) dX2_pop_12 (fun z => by cases z) rfl ?_
    refine gI (q := 16) dX2_pop_13 gfX2_32 lwK rfl rfl ?_
    rw [h6]
    refine Ev.iconst (q := 17) dX2_pop_16 ki_1 rfl ?_
    refine Ev.isub (q := 18) dX2_pop_17 rfl ?_
    rw [w32_of (by omega) (by omega), show ((s.length + 1 : Nat) : Int) - 1 = (s.length : Int) by omega]
    refine Ev.dup_x1 (q := 19) dX2_pop_18 (fun z => by cases z) (fun z => by cases z) rfl ?_
    refine pI (q := 22) dX2_pop_19 gfX2_32 lwK rfl rfl ?_
    refine aI (q := 23) (k := s.length) dX2_pop_22 lwK3 (by first | rfl | omega | (simp (disch := omega) only [w32_of]; omega)) (by omega) rfl ?_
    rw [up_o _ _ (by omega), p1]
    refine Ev.goto (q := 27) dX2_pop_23 (by decide) ?_
    refine rI dX2_pop_27 rfl ?_
    exact ⟨rfl, p2, (Fr.rf _ _).up (sEm_t (by omega))⟩
set_option maxRecDepth 4000 in
theorem p_X2_putNumber {Γ : Gm} {d : Nat} {m : Mem} (c : Nat) (cs s : List Int) (x : Int) (hc : c ∈ lawC) (h : LwR m c cs s) (hn : cs.length < 900) : Ci Γ (d + 1) MX2_putNumber [rv c, iv x] m (fun r m' => LwR m' c (cs ++ [x]) s ∧ Fr (sEm c) m m') := by
  refine Ci.of moX2_putNumber rfl rfl (fun hA hM => ?_)
  show Em Γ (d + 1) MX2_putNumber _ 0 [rv c, iv x] [] m
  obtain ⟨lwK, lwr2, lwr3, lwr5, lwK1, lwK2, lwK3, lwN⟩ := lawK c hc
  refine Ev.aload_n (q := 1) dX2_putNumber_0 rfl rfl ?_
  refine Ev.iload_n (q := 2) dX2_putNumber_1 rfl rfl ?_
  refine cV1v (q := 5) (d' := d + 0) dX2_putNumber_2 mlX2_35 moX2_emit mvX2_emit lwK rfl rfl rfl (Nat.le_refl _) rfl rfl rfl (p_X2_emit c cs s x hc h hn) (fun r1 m1 e1 => ?_)
  refine rV dX2_putNumber_5 rfl ?_
  exact e1
set_option maxRecDepth 4000 in
theorem p_X2_putWord {Γ : Gm} {d : Nat} {m : Mem} (c : Nat) (cs s : List Int) (x : Nat) (hc : c ∈ lawC) (h : LwR m c cs s) (hn : cs.length < 900) (hx : x < 10) : Ci Γ (d + 1) MX2_putWord [rv c, iv x] m (fun r m' => LwR m' c (cs ++ [-1 - (x : Int)]) s ∧ Fr (sEm c) m m') := by
  refine Ci.of moX2_putWord rfl rfl (fun hA hM => ?_)
  show Em Γ (d + 1) MX2_putWord _ 0 [rv c, iv x] [] m
  obtain ⟨lwK, lwr2, lwr3, lwr5, lwK1, lwK2, lwK3, lwN⟩ := lawK c hc
  refine Ev.aload_n (q := 1) dX2_putWord_0 rfl rfl ?_
  refine Ev.iconst (q := 2) dX2_putWord_1 ki_m1 rfl ?_
  refine Ev.iload_n (q := 3) dX2_putWord_2 rfl rfl ?_
  refine Ev.isub (q := 4) dX2_putWord_3 rfl ?_
  rw [w32_of (by omega) (by omega)]
  refine cV1v (q := 7) (d' := d + 0) dX2_putWord_4 mlX2_35 moX2_emit mvX2_emit lwK rfl rfl rfl (Nat.le_refl _) rfl rfl rfl (p_X2_emit c cs s _ hc h hn) (fun r1 m1 e1 => ?_)
  refine rV dX2_putWord_7 rfl ?_
  exact e1
def sLb (c a k : Nat) : Bool := decide ((a = c ∧ (k = 0 ∨ k = 1 ∨ k = 4 ∨ k = 6)) ∨ a = c + 2 ∨ a = c + 3)
theorem sLb_f {c a k : Nat} (h : ¬ ((a = c ∧ (k = 0 ∨ k = 1 ∨ k = 4 ∨ k = 6)) ∨ a = c + 2 ∨ a = c + 3)) : sLb c a k = false := decide_eq_false h
theorem sLb_t {c a k : Nat} (h : (a = c ∧ (k = 0 ∨ k = 1 ∨ k = 4 ∨ k = 6)) ∨ a = c + 2 ∨ a = c + 3) : sLb c a k = true := decide_eq_true h
theorem sLb_n {c a k : Nat} (h : sLb c a k = false) : ¬ ((a = c ∧ (k = 0 ∨ k = 1 ∨ k = 4 ∨ k = 6)) ∨ a = c + 2 ∨ a = c + 3) := of_decide_eq_false h
theorem Fr.lb {c : Nat} {m m' : Mem} (h : Fr (sEm c) m m') : Fr (sLb c) m m' := h.mono (fun a k q => sEm_f (by have := sLb_n q; omega))
/-- what goes out ahead of an operator -/
def flJ (op : Int) : List Int → List Int × List Int
  | [] => ([], [])
  | x :: t => if x = -14 ∨ ¬ (x = -13 ∨ op ≠ -13) then ([], x :: t) else (x :: (flJ op t).1, (flJ op t).2)
def flO : List Int → List Int × List Int
  | [] => ([], [])
  | x :: t => if x = -14 then ([], x :: t) else (x :: (flO t).1, (flO t).2)
theorem flJ_stop {op x : Int} {t : List Int} (h : x = -14 ∨ ¬ (x = -13 ∨ op ≠ -13)) : flJ op (x :: t) = ([], x :: t) := by unfold flJ; rw [if_pos h]
theorem flJ_go {op x : Int} {t : List Int} (h : ¬ (x = -14 ∨ ¬ (x = -13 ∨ op ≠ -13))) : flJ op (x :: t) = (x :: (flJ op t).1, (flJ op t).2) := by conv => lhs; unfold flJ; rw [if_neg h]
theorem flO_stop {x : Int} {t : List Int} (h : x = -14) : flO (x :: t) = ([], x :: t) := by unfold flO; rw [if_pos h]
theorem flO_go {x : Int} {t : List Int} (h : ¬ x = -14) : flO (x :: t) = (x :: (flO t).1, (flO t).2) := by conv => lhs; unfold flO; rw [if_neg h]
theorem flJ_len (op : Int) (s : List Int) : (flJ op s).1.length + (flJ op s).2.length = s.length := by
  induction s with
  | nil => rfl
  | cons x t ih =>
    by_cases h : x = -14 ∨ ¬ (x = -13 ∨ op ≠ -13)
    · rw [flJ_stop h]; simp
    · rw [flJ_go h]; simp; omega
set_option maxRecDepth 4000 in
theorem p_X2_begin {Γ : Gm} {d : Nat} {m : Mem} (c : Nat) (hc : c ∈ lawC) : Ci Γ (d + 0) MX2_begin [rv c] m (fun r m' => LwR m' c [] [] ∧ m' c 0 = 1 ∧ m' c 1 = 0 ∧ Fr (sLb c) m m') := by
  refine Ci.of moX2_begin rfl rfl (fun hA hM => ?_)
  show Em Γ (d + 0) MX2_begin _ 0 [rv c] [] m
  obtain ⟨lwK, lwr2, lwr3, lwr5, lwK1, lwK2, lwK3, lwN⟩ := lawK c hc
  refine Ev.aload_n (q := 1) dX2_begin_0 rfl rfl ?_
  refine Ev.iconst (q := 2) dX2_begin_1 ki_1 rfl ?_
  refine pZ (q := 5) dX2_begin_2 gfX2_9 lwK (by decide) rfl rfl ?_
  refine Ev.aload_n (q := 6) dX2_begin_5 rfl rfl ?_
  refine Ev.iconst (q := 7) dX2_begin_6 ki_0 rfl ?_
  refine pI (q := 10) dX2_begin_7 gfX2_15 lwK rfl rfl ?_
  refine Ev.aload_n (q := 11) dX2_begin_10 rfl rfl ?_
  refine Ev.iconst (q := 12) dX2_begin_11 ki_0 rfl ?_
  refine pI (q := 15) dX2_begin_12 gfX2_26 lwK rfl rfl ?_
  refine Ev.aload_n (q := 16) dX2_begin_15 rfl rfl ?_
  refine Ev.iconst (q := 17) dX2_begin_16 ki_0 rfl ?_
  refine pI (q := 20) dX2_begin_17 gfX2_32 lwK rfl rfl ?_
  refine rV dX2_begin_20 rfl ?_
  refine ⟨⟨⟨?_, fun i hi => absurd hi (by simp)⟩, ?_, fun i hi => absurd hi (by simp)⟩, ?_, ?_, ((((Fr.rf _ _).up (sLb_t (by omega))).up (sLb_t (by omega))).up (sLb_t (by omega))).up (sLb_t (by omega))⟩
  · rw [up_k _ _ (by decide), up_eq]; rfl
  · rw [up_eq]; rfl
  · simp (disch := decide) only [up_k, up_eq]
  · simp (disch := decide) only [up_k, up_eq]
set_option maxRecDepth 4000 in
theorem p_X2_open {Γ : Gm} {d : Nat} {m : Mem} (c : Nat) (cs s : List Int) (hc : c ∈ lawC) (h : LwR m c cs s) (hn : s.length < 32) : Ci Γ (d + 1) MX2_open [rv c] m (fun r m' => LwR m' c cs (-14 :: s) ∧ m' c 1 = w32 (m c 1 + 1) ∧ Fr (sLb c) m m' ∧ m' c 0 = m c 0) := by
  refine Ci.of moX2_open rfl rfl (fun hA hM => ?_)
  show Em Γ (d + 1) MX2_open _ 0 [rv c] [] m
  obtain ⟨lwK, lwr2, lwr3, lwr5, lwK1, lwK2, lwK3, lwN⟩ := lawK c hc
  refine Ev.aload_n (q := 1) dX2_open_0 rfl rfl ?_
  refine Ev.dup (q := 2) dX2_open_1 (fun z => by cases z) rfl ?_
  refine gI (q := 5) dX2_open_2 gfX2_15 lwK rfl rfl ?_
  refine Ev.iconst (q := 6) dX2_open_5 ki_1 rfl ?_
  refine Ev.iadd (q := 7) dX2_open_6 rfl ?_
  refine pI (q := 10) dX2_open_7 gfX2_15 lwK rfl rfl ?_
  refine Ev.aload_n (q := 11) dX2_open_10 rfl rfl ?_
  refine Ev.bipush (q := 13) dX2_open_11 kb_m14 rfl ?_
  refine cV1v (q := 16) (d' := d + 0) dX2_open_13 mlX2_43 moX2_push mvX2_push lwK rfl rfl rfl (Nat.le_refl _) rfl rfl rfl (p_X2_push c cs s (-14) hc (h.cod (by rw [up_k _ _ (by decide)]) (by rw [up_na _ _ (by omega)]) (by rw [up_k _ _ (by decide)]) (by rw [up_na _ _ (by omega)])) hn) (fun r1 m1 e1 => ?_)
  obtain ⟨y1, y2⟩ := e1
  refine rV dX2_open_16 rfl ?_
  exact ⟨y1, by rw [y2 c 1 (sEm_f (by omega)), up_eq], ((Fr.rf _ _).up (sLb_t (by omega))).tr y2.lb, by rw [y2 c 0 (sEm_f (by omega)), up_k _ _ (by decide)]⟩
set_option maxRecDepth 4000 in
theorem p_X2_bindsAtLeast {Γ : Gm} {d : Nat} {m : Mem} (a b : Int) : Ci Γ (d + 0) MX2_bindsAtLeast [iv a, iv b] m (fun r m' => r = (if a = -14 ∨ ¬ (a = -13 ∨ b ≠ -13) then 0 else 1) ∧ m' = m) := by
  refine Ci.of moX2_bindsAtLeast rfl rfl (fun hA hM => ?_)
  show Em Γ (d + 0) MX2_bindsAtLeast _ 0 [iv a, iv b] [] m
  refine Ev.iload_n (q := 1) dX2_bindsAtLeast_0 rfl rfl ?_
  refine Ev.bipush (q := 3) dX2_bindsAtLeast_1 kb_m14 rfl ?_
  refine Ev.icmp_eq (tgt := 22) (q := 6) dX2_bindsAtLeast_3 (by decide) rfl (fun h1 => ?_) (fun h1 => ?_)
  · skip
    refine Ev.iconst (q := 23) dX2_bindsAtLeast_22 ki_0 rfl ?_
    refine rZ dX2_bindsAtLeast_23 rfl (by decide) ?_
    refine ⟨?_, rfl⟩
    split <;> first | rfl | omega
  · skip
    refine Ev.iload_n (q := 7) dX2_bindsAtLeast_6 rfl rfl ?_
    refine Ev.bipush (q := 9) dX2_bindsAtLeast_7 kb_m13 rfl ?_
    refine Ev.icmp_eq (tgt := 18) (q := 12) dX2_bindsAtLeast_9 (by decide) rfl (fun h2 => ?_) (fun h2 => ?_)
    · skip
      refine Ev.iconst (q := 19) dX2_bindsAtLeast_18 ki_1 rfl ?_
      refine Ev.goto (q := 23) dX2_bindsAtLeast_19 (by decide) ?_
      refine rZ dX2_bindsAtLeast_23 rfl (by decide) ?_
      refine ⟨?_, rfl⟩
      split <;> first | rfl | omega
    · skip
      refine Ev.iload_n (q := 13) dX2_bindsAtLeast_12 rfl rfl ?_
      refine Ev.bipush (q := 15) dX2_bindsAtLeast_13 kb_m13 rfl ?_
      refine Ev.icmp_eq (tgt := 22) (q := 18) dX2_bindsAtLeast_15 (by decide) rfl (fun h3 => ?_) (fun h3 => ?_)
      · skip
        refine Ev.iconst (q := 23) dX2_bindsAtLeast_22 ki_0 rfl ?_
        refine rZ dX2_bindsAtLeast_23 rfl (by decide) ?_
        refine ⟨?_, rfl⟩
        split <;> first | rfl | omega
      · skip
        refine Ev.iconst (q := 19) dX2_bindsAtLeast_18 ki_1 rfl ?_
        refine Ev.goto (q := 23) dX2_bindsAtLeast_19 (by decide) ?_
        refine rZ dX2_bindsAtLeast_23 rfl (by decide) ?_
        refine ⟨?_, rfl⟩
        split <;> first | rfl | omega
set_option maxRecDepth 4000 in
theorem lc_join {Γ : Gm} {d : Nat} {m0 : Mem} (c : Nat) (op : Int) (hc : c ∈ lawC) : ∀ (s cs : List Int) (M : Mem), LwR M c cs s → s.length < 32 → cs.length + s.length ≤ 900 → Fr (sEm c) m0 M → Em Γ (d + 1) MX2_join (fun r m' => LwR m' c (cs ++ (flJ op s).1) (op :: (flJ op s).2) ∧ Fr (sEm c) m0 m') 0 [rv c, iv op] [] M := by
  obtain ⟨lwK, lwr2, lwr3, lwr5, lwK1, lwK2, lwK3, lwN⟩ := lawK c hc
  intro s
  induction s with
  | nil =>
    intro cs M h hs hcs hF
    refine Ev.aload_n (q := 1) dX2_join_0 rfl rfl ?_
    refine gI (q := 4) dX2_join_1 gfX2_32 lwK rfl rfl ?_
    rw [show M c 6 = ((0 : Nat) : Int) from h.2.1]
    refine Ev.if_le (tgt := 53) (q := 7) dX2_join_4 (by decide) rfl (fun h1 => ?_) (fun h1 => ?_)
    · skip
      refine Ev.aload_n (q := 54) dX2_join_53 rfl rfl ?_
      refine Ev.iload_n (q := 55) dX2_join_54 rfl rfl ?_
      refine cV1v (q := 58) (d' := d + 0) dX2_join_55 mlX2_43 moX2_push mvX2_push lwK rfl rfl rfl (Nat.le_refl _) rfl rfl rfl (p_X2_push c cs [] op hc h (by decide)) (fun r2 m2 e2 => ?_)
      obtain ⟨z1, z2⟩ := e2
      refine rV dX2_join_58 rfl ?_
      refine ⟨?_, hF.tr z2⟩
      show LwR _ c (cs ++ []) [op]
      rw [List.append_nil]
      exact z1
    · skip
      omega
  | cons x t ih =>
    intro cs M h hs hcs hF
    have hx := h.pop.1
    have h6 : M c 6 = ((t.length + 1 : Nat) : Int) := h.2.1
    rw [List.length_cons] at hs
    refine Ev.aload_n (q := 1) dX2_join_0 rfl rfl ?_
    refine gI (q := 4) dX2_join_1 gfX2_32 lwK rfl rfl ?_
    rw [h6]
    refine Ev.if_le (tgt := 53) (q := 7) dX2_join_4 (by decide) rfl (fun h1 => ?_) (fun h1 => ?_)
    · skip
      omega
    · skip
      refine Ev.aload_n (q := 8) dX2_join_7 rfl rfl ?_
      refine gR (q := 11) dX2_join_8 gfX2_29 lwK lwr5 rfl rfl ?_
      refine Ev.aload_n (q := 12) dX2_join_11 rfl rfl ?_
      refine gI (q := 15) dX2_join_12 gfX2_32 lwK rfl rfl ?_
      rw [h6]
      refine Ev.iconst (q := 16) dX2_join_15 ki_1 rfl ?_
      refine Ev.isub (q := 17) dX2_join_16 rfl ?_
      rw [w32_of (by omega) (by omega), show ((t.length + 1 : Nat) : Int) - 1 = (t.length : Int) by omega]
      refine aI (q := 18) (k := t.length) dX2_join_17 lwK3 (by first | rfl | omega | (simp (disch := omega) only [w32_of]; omega)) (by omega) rfl ?_
      rw [hx]
      refine Ev.iload_n (q := 19) dX2_join_18 rfl rfl ?_
      refine cS2i (q := 22) (d' := d + 0) dX2_join_19 mlX2_39 moX2_bindsAtLeast msX2_bindsAtLeast rfl rfl (Nat.le_refl _) rfl rfl rfl (p_X2_bindsAtLeast x op) (fun r2 m2 e2 => ?_)
      obtain ⟨rfl, e2⟩ := e2
      obtain rfl := e2.symm
      refine Ev.if_eq (tgt := 53) (q := 25) dX2_join_22 (by decide) rfl (fun h3 => ?_) (fun h3 => ?_)
      · skip
        have hst : x = -14 ∨ ¬ (x = -13 ∨ op ≠ -13) := Classical.byContradiction (fun z => by rw [if_neg z] at h3; omega)
        refine Ev.aload_n (q := 54) dX2_join_53 rfl rfl ?_
        refine Ev.iload_n (q := 55) dX2_join_54 rfl rfl ?_
        refine cV1v (q := 58) (d' := d + 0) dX2_join_55 mlX2_43 moX2_push mvX2_push lwK rfl rfl rfl (Nat.le_refl _) rfl rfl rfl (p_X2_push c cs (x :: t) op hc h (by omega)) (fun r4 m4 e4 => ?_)
        obtain ⟨z1, z2⟩ := e4
        refine rV dX2_join_58 rfl ?_
        rw [flJ_stop hst]
        refine ⟨?_, hF.tr z2⟩
        show LwR _ c (cs ++ []) (op :: x :: t)
        rw [List.append_nil]
        exact z1
      · skip
        have hgo : ¬ (x = -14 ∨ ¬ (x = -13 ∨ op ≠ -13)) := fun z => by rw [if_pos z] at h3; omega
        refine Ev.aload_n (q := 26) dX2_join_25 rfl rfl ?_
        refine Ev.aload_n (q := 27) dX2_join_26 rfl rfl ?_
        refine gR (q := 30) dX2_join_27 gfX2_29 lwK lwr5 rfl rfl ?_
        refine Ev.aload_n (q := 31) dX2_join_30 rfl rfl ?_
        refine gI (q := 34) dX2_join_31 gfX2_32 lwK rfl rfl ?_
        rw [h6]
        refine Ev.iconst (q := 35) dX2_join_34 ki_1 rfl ?_
        refine Ev.isub (q := 36) dX2_join_35 rfl ?_
        rw [w32_of (by omega) (by omega), show ((t.length + 1 : Nat) : Int) - 1 = (t.length : Int) by omega]
        refine aI (q := 37) (k := t.length) dX2_join_36 lwK3 (by first | rfl | omega | (simp (disch := omega) only [w32_of]; omega)) (by omega) rfl ?_
        rw [hx]
        refine cV1v (q := 40) (d' := d + 0) dX2_join_37 mlX2_35 moX2_emit mvX2_emit lwK rfl rfl rfl (Nat.le_refl _) rfl rfl rfl (p_X2_emit c cs (x :: t) x hc h (by rw [List.length_cons] at hcs; omega)) (fun r5 m5 e5 => ?_)
        obtain ⟨M8, rfl⟩ : ∃ M8, M8 = m5 := ⟨_, rfl⟩
        obtain ⟨z1, z2⟩ := e5
        have h8 : M8 c 6 = ((t.length + 1 : Nat) : Int) := z1.2.1
        refine Ev.aload_n (q := 41) dX2_join_40 rfl rfl ?_
        refine Ev.dup (q := 42) dX2_join_41 (fun z => by cases z) rfl ?_
        refine gI (q := 45) dX2_join_42 gfX2_32 lwK rfl rfl ?_
        rw [h8]
        refine Ev.iconst (q := 46) dX2_join_45 ki_1 rfl ?_
        refine Ev.isub (q := 47) dX2_join_46 rfl ?_
        rw [w32_of (by omega) (by omega), show ((t.length + 1 : Nat) : Int) - 1 = (t.length : Int) by omega]
        refine pI (q := 50) dX2_join_47 gfX2_32 lwK rfl rfl ?_
        refine Ev.goto (q := 0) dX2_join_50 (by decide) ?_
        rw [flJ_go hgo]
        rw [List.length_cons] at hcs
        refine (ih (cs ++ [x]) _ z1.pop.2 (by omega) (by rw [List.length_append]; show cs.length + 1 + t.length ≤ _; omega) ((hF.tr z2).up (sEm_t (by omega)))).imp ?_
        intro r9 m9 h9
        refine ⟨?_, h9.2⟩
        have h91 := h9.1
        rw [List.append_assoc] at h91
        exact h91
set_option maxRecDepth 4000 in
theorem p_X2_join {Γ : Gm} {d : Nat} {m : Mem} (c : Nat) (cs s : List Int) (op : Int) (hc : c ∈ lawC) (h : LwR m c cs s) (hs : s.length < 32) (hcs : cs.length + s.length ≤ 900) : Ci Γ (d + 1) MX2_join [rv c, iv op] m (fun r m' => LwR m' c (cs ++ (flJ op s).1) (op :: (flJ op s).2) ∧ Fr (sEm c) m m') := by
  refine Ci.of moX2_join rfl rfl (fun hA hM => ?_)
  show Em Γ (d + 1) MX2_join _ 0 [rv c, iv op] [] m
  exact lc_join (m0 := m) c op hc s cs m h hs hcs (Fr.rf _ _)
set_option maxRecDepth 4000 in
theorem lc_finish {Γ : Gm} {d : Nat} {m0 : Mem} (c : Nat) (hc : c ∈ lawC) : ∀ (s cs : List Int) (M : Mem), LwR M c cs s → s.length < 33 → cs.length + s.length ≤ 900 → Fr (sEm c) m0 M → Em Γ (d + 1) MX2_finish (fun r m' => LwR m' c (cs ++ s) [] ∧ Fr (sEm c) m0 m') 0 [rv c] [] M := by
  obtain ⟨lwK, lwr2, lwr3, lwr5, lwK1, lwK2, lwK3, lwN⟩ := lawK c hc
  intro s
  induction s with
  | nil =>
    intro cs M h hs hcs hF
    refine Ev.aload_n (q := 1) dX2_finish_0 rfl rfl ?_
    refine gI (q := 4) dX2_finish_1 gfX2_32 lwK rfl rfl ?_
    rw [show M c 6 = ((0 : Nat) : Int) from h.2.1]
    refine Ev.if_le (tgt := 35) (q := 7) dX2_finish_4 (by decide) rfl (fun h1 => ?_) (fun h1 => ?_)
    · skip
      refine rV dX2_finish_35 rfl ?_
      rw [List.append_nil]
      exact ⟨h, hF⟩
    · skip
      omega
  | cons x t ih =>
    intro cs M h hs hcs hF
    have hx := h.pop.1
    have h6 : M c 6 = ((t.length + 1 : Nat) : Int) := h.2.1
    rw [List.length_cons] at hs
    refine Ev.aload_n (q := 1) dX2_finish_0 rfl rfl ?_
    refine gI (q := 4) dX2_finish_1 gfX2_32 lwK rfl rfl ?_
    rw [h6]
    refine Ev.if_le (tgt := 35) (q := 7) dX2_finish_4 (by decide) rfl (fun h1 => ?_) (fun h1 => ?_)
    · skip
      omega
    · skip
      refine Ev.aload_n (q := 8) dX2_finish_7 rfl rfl ?_
      refine Ev.aload_n (q := 9) dX2_finish_8 rfl rfl ?_
      refine gR (q := 12) dX2_finish_9 gfX2_29 lwK lwr5 rfl rfl ?_
      refine Ev.aload_n (q := 13) dX2_finish_12 rfl rfl ?_
      refine gI (q := 16) dX2_finish_13 gfX2_32 lwK rfl rfl ?_
      rw [h6]
      refine Ev.iconst (q := 17) dX2_finish_16 ki_1 rfl ?_
      refine Ev.isub (q := 18) dX2_finish_17 rfl ?_
      rw [w32_of (by omega) (by omega), show ((t.length + 1 : Nat) : Int) - 1 = (t.length : Int) by omega]
      refine aI (q := 19) (k := t.length) dX2_finish_18 lwK3 (by first | rfl | omega | (simp (disch := omega) only [w32_of]; omega)) (by omega) rfl ?_
      rw [hx]
      refine cV1v (q := 22) (d' := d + 0) dX2_finish_19 mlX2_35 moX2_emit mvX2_emit lwK rfl rfl rfl (Nat.le_refl _) rfl rfl rfl (p_X2_emit c cs (x :: t) x hc h (by rw [List.length_cons] at hcs; omega)) (fun r2 m2 e2 => ?_)
      obtain ⟨M8, rfl⟩ : ∃ M8, M8 = m2 := ⟨_, rfl⟩
      obtain ⟨z1, z2⟩ := e2
      have h8 : M8 c 6 = ((t.length + 1 : Nat) : Int) := z1.2.1
      refine Ev.aload_n (q := 23) dX2_finish_22 rfl rfl ?_
      refine Ev.dup (q := 24) dX2_finish_23 (fun z => by cases z) rfl ?_
      refine gI (q := 27) dX2_finish_24 gfX2_32 lwK rfl rfl ?_
      rw [h8]
      refine Ev.iconst (q := 28) dX2_finish_27 ki_1 rfl ?_
      refine Ev.isub (q := 29) dX2_finish_28 rfl ?_
      rw [w32_of (by omega) (by omega), show ((t.length + 1 : Nat) : Int) - 1 = (t.length : Int) by omega]
      refine pI (q := 32) dX2_finish_29 gfX2_32 lwK rfl rfl ?_
      refine Ev.goto (q := 0) dX2_finish_32 (by decide) ?_
      refine (ih (cs ++ [x]) _ z1.pop.2 (by omega) (by rw [List.length_cons] at hcs; rw [List.length_append]; show cs.length + 1 + t.length ≤ _; omega) ((hF.tr z2).up (sEm_t (by omega)))).imp ?_
      intro r9 m9 h9
      refine ⟨?_, h9.2⟩
      have h91 := h9.1
      rw [List.append_assoc] at h91
      exact h91
set_option maxRecDepth 4000 in
theorem p_X2_finish {Γ : Gm} {d : Nat} {m : Mem} (c : Nat) (cs s : List Int) (hc : c ∈ lawC) (h : LwR m c cs s) (hs : s.length < 33) (hcs : cs.length + s.length ≤ 900) : Ci Γ (d + 1) MX2_finish [rv c] m (fun r m' => LwR m' c (cs ++ s) [] ∧ Fr (sEm c) m m') := by
  refine Ci.of moX2_finish rfl rfl (fun hA hM => ?_)
  show Em Γ (d + 1) MX2_finish _ 0 [rv c] [] m
  exact lc_finish (m0 := m) c hc s cs m h hs hcs (Fr.rf _ _)
theorem flO_len (s : List Int) : (flO s).1.length + (flO s).2.length = s.length := by
  induction s with
  | nil => rfl
  | cons x t ih =>
    by_cases h : x = -14
    · rw [flO_stop h]; simp
    · rw [flO_go h]; simp; omega
set_option maxRecDepth 4000 in
theorem lc_close {Γ : Gm} {d : Nat} {m0 : Mem} (c : Nat) (hc : c ∈ lawC) : ∀ (s cs : List Int) (M : Mem), LwR M c cs s → s.length < 33 → cs.length + s.length ≤ 900 → -14 ∈ s → Fr (sEm c) m0 M → Em Γ (d + 1) MX2_close (fun r m' => LwR m' c (cs ++ (flO s).1) (flO s).2.tail ∧ Fr (sEm c) m0 m') 10 [rv c] [] M := by
  obtain ⟨lwK, lwr2, lwr3, lwr5, lwK1, lwK2, lwK3, lwN⟩ := lawK c hc
  intro s
  induction s with
  | nil => intro cs M h hs hcs hin; cases hin
  | cons x t ih =>
    intro cs M h hs hcs hin hF
    have hin : x = -14 ∨ -14 ∈ t := by rcases List.mem_cons.mp hin with q | q; (exact Or.inl q.symm); exact Or.inr q
    have hx := h.pop.1
    have h6 : M c 6 = ((t.length + 1 : Nat) : Int) := h.2.1
    rw [List.length_cons] at hs
    refine Ev.aload_n (q := 11) dX2_close_10 rfl rfl ?_
    refine gI (q := 14) dX2_close_11 gfX2_32 lwK rfl rfl ?_
    rw [h6]
    refine Ev.if_le (tgt := 61) (q := 17) dX2_close_14 (by decide) rfl (fun h1 => ?_) (fun h1 => ?_)
    · skip
      omega
    · skip
      refine Ev.aload_n (q := 18) dX2_close_17 rfl rfl ?_
      refine gR (q := 21) dX2_close_18 gfX2_29 lwK lwr5 rfl rfl ?_
      refine Ev.aload_n (q := 22) dX2_close_21 rfl rfl ?_
      refine gI (q := 25) dX2_close_22 gfX2_32 lwK rfl rfl ?_
      rw [h6]
      refine Ev.iconst (q := 26) dX2_close_25 ki_1 rfl ?_
      refine Ev.isub (q := 27) dX2_close_26 rfl ?_
      rw [w32_of (by omega) (by omega), show ((t.length + 1 : Nat) : Int) - 1 = (t.length : Int) by omega]
      refine aI (q := 28) (k := t.length) dX2_close_27 lwK3 (by first | rfl | omega | (simp (disch := omega) only [w32_of]; omega)) (by omega) rfl ?_
      rw [hx]
      refine Ev.bipush (q := 30) dX2_close_28 kb_m14 rfl ?_
      refine Ev.icmp_eq (tgt := 61) (q := 33) dX2_close_30 (by decide) rfl (fun h2 => ?_) (fun h2 => ?_)
      · skip
        refine Ev.aload_n (q := 62) dX2_close_61 rfl rfl ?_
        refine cV0i (q := 65) (d' := d + 0) dX2_close_62 mlX2_46 moX2_pop mvX2_pop lwK rfl rfl rfl (Nat.le_refl _) rfl rfl rfl (p_X2_pop c cs t x hc h (by omega)) (fun r3 m3 e3 => ?_)
        obtain ⟨M9, rfl⟩ : ∃ M9, M9 = m3 := ⟨_, rfl⟩
        obtain ⟨rfl, y1, y2⟩ := e3
        refine Ev.pop (q := 66) dX2_close_65 (fun z => by cases z) rfl ?_
        refine rV dX2_close_66 rfl ?_
        rw [flO_stop (by omega)]
        refine ⟨?_, hF.tr y2⟩
        show LwR _ c (cs ++ []) t
        rw [List.append_nil]
        exact y1
      · skip
        refine Ev.aload_n (q := 34) dX2_close_33 rfl rfl ?_
        refine Ev.aload_n (q := 35) dX2_close_34 rfl rfl ?_
        refine gR (q := 38) dX2_close_35 gfX2_29 lwK lwr5 rfl rfl ?_
        refine Ev.aload_n (q := 39) dX2_close_38 rfl rfl ?_
        refine gI (q := 42) dX2_close_39 gfX2_32 lwK rfl rfl ?_
        rw [h6]
        refine Ev.iconst (q := 43) dX2_close_42 ki_1 rfl ?_
        refine Ev.isub (q := 44) dX2_close_43 rfl ?_
        rw [w32_of (by omega) (by omega), show ((t.length + 1 : Nat) : Int) - 1 = (t.length : Int) by omega]
        refine aI (q := 45) (k := t.length) dX2_close_44 lwK3 (by first | rfl | omega | (simp (disch := omega) only [w32_of]; omega)) (by omega) rfl ?_
        rw [hx]
        refine cV1v (q := 48) (d' := d + 0) dX2_close_45 mlX2_35 moX2_emit mvX2_emit lwK rfl rfl rfl (Nat.le_refl _) rfl rfl rfl (p_X2_emit c cs (x :: t) x hc h (by rw [List.length_cons] at hcs; omega)) (fun r4 m4 e4 => ?_)
        obtain ⟨M8, rfl⟩ : ∃ M8, M8 = m4 := ⟨_, rfl⟩
        obtain ⟨z1, z2⟩ := e4
        have h8 : M8 c 6 = ((t.length + 1 : Nat) : Int) := z1.2.1
        refine Ev.aload_n (q := 49) dX2_close_48 rfl rfl ?_
        refine Ev.dup (q := 50) dX2_close_49 (fun z => by cases z) rfl ?_
        refine gI (q := 53) dX2_close_50 gfX2_32 lwK rfl rfl ?_
        rw [h8]
        refine Ev.iconst (q := 54) dX2_close_53 ki_1 rfl ?_
        refine Ev.isub (q := 55) dX2_close_54 rfl ?_
        rw [w32_of (by omega) (by omega), show ((t.length + 1 : Nat) : Int) - 1 = (t.length : Int) by omega]
        refine pI (q := 58) dX2_close_55 gfX2_32 lwK rfl rfl ?_
        refine Ev.goto (q := 10) dX2_close_58 (by decide) ?_
        rw [flO_go (by assumption)]
        refine (ih (cs ++ [x]) _ z1.pop.2 (by omega) (by rw [List.length_cons] at hcs; rw [List.length_append]; show cs.length + 1 + t.length ≤ _; omega) (by rcases hin with q | q; (exact absurd q (by assumption)); exact q) ((hF.tr z2).up (sEm_t (by omega)))).imp ?_
        intro r9 m9 h9
        refine ⟨?_, h9.2⟩
        have h91 := h9.1
        rw [List.append_assoc] at h91
        exact h91
set_option maxRecDepth 4000 in
theorem p_X2_close {Γ : Gm} {d : Nat} {m : Mem} (c : Nat) (cs s : List Int) (hc : c ∈ lawC) (h : LwR m c cs s) (hs : s.length < 33) (hcs : cs.length + s.length ≤ 900) (hin : -14 ∈ s) : Ci Γ (d + 1) MX2_close [rv c] m (fun r m' => LwR m' c (cs ++ (flO s).1) (flO s).2.tail ∧ m' c 1 = w32 (m c 1 - 1) ∧ Fr (sLb c) m m' ∧ m' c 0 = m c 0) := by
  refine Ci.of moX2_close rfl rfl (fun hA hM => ?_)
  show Em Γ (d + 1) MX2_close _ 0 [rv c] [] m
  obtain ⟨lwK, lwr2, lwr3, lwr5, lwK1, lwK2, lwK3, lwN⟩ := lawK c hc
  refine Ev.aload_n (q := 1) dX2_close_0 rfl rfl ?_
  refine Ev.dup (q := 2) dX2_close_1 (fun z => by cases z) rfl ?_
  refine gI (q := 5) dX2_close_2 gfX2_15 lwK rfl rfl ?_
  refine Ev.iconst (q := 6) dX2_close_5 ki_1 rfl ?_
  refine Ev.isub (q := 7) dX2_close_6 rfl ?_
  refine pI (q := 10) dX2_close_7 gfX2_15 lwK rfl rfl ?_
  refine (lc_close (m0 := up m c 1 (w32 (m c 1 - 1))) c hc s cs _ (h.cod (by rw [up_k _ _ (by decide)]) (by rw [up_na _ _ (by omega)]) (by rw [up_k _ _ (by decide)]) (by rw [up_na _ _ (by omega)])) hs hcs hin (Fr.rf _ _)).imp ?_
  intro r9 m9 h9
  exact ⟨h9.1, by rw [h9.2 c 1 (sEm_f (by omega)), up_eq], ((Fr.rf _ _).up (sLb_t (by omega))).tr h9.2.lb, by rw [h9.2 c 0 (sEm_f (by omega)), up_k _ _ (by decide)]⟩
