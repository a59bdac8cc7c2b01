/-! ===== what stays ===== -/
def Fr (s : Nat → Nat → Bool) (m m' : Mem) : Prop := ∀ a k, s a k = false → m' a k = m a k
theorem Fr.rf (s : Nat → Nat → Bool) (m : Mem) : Fr s m m := fun _ _ _ => rfl
theorem Fr.tr {s : Nat → Nat → Bool} {m m' m'' : Mem} (h : Fr s m m') (h' : Fr s m' m'') : Fr s m m'' := fun a k q => (h' a k q).trans (h a k q)
theorem Fr.mono {s s' : Nat → Nat → Bool} {m m' : Mem} (h : Fr s m m') (hs : ∀ a k, s' a k = false → s a k = false) : Fr s' m m' := fun a k q => h a k (hs a k q)
theorem Fr.up {s : Nat → Nat → Bool} {m m' : Mem} {a k : Nat} {x : Int} (h : Fr s m m') (hs : s a k = true) : Fr s m (up m' a k x) := by
  intro b j q
  rw [up_ne m' x (by
    by_cases h1 : b = a
    · refine Or.inr (fun h2 => ?_)
      rw [h1, h2, hs] at q
      cases q
    · exact Or.inl h1)]
  exact h b j q
theorem Fr.row {s : Nat → Nat → Bool} {m m' : Mem} (h : Fr s m m') (a : Nat) (hs : ∀ k, s a k = false) : m' a = m a := funext fun k => h a k (hs k)
/-! ===== the ride of one lift ===== -/
def abv (s : Nat) : Nat → Nat → Option Nat
  | 0, _ => none
  | n + 1, f => if s.testBit f then some f else abv s n (f + 1)
def blw (s : Nat) : Nat → Option Nat
  | 0 => none
  | f + 1 => if s.testBit f then some f else blw s f
def above (s h : Nat) : Option Nat := abv s (11 - h) (h + 1)
def nxt (s h : Nat) (u : Bool) : Option Nat := if u then (match above s h with
  | some f => some f
  | none => blw s h) else (match blw s h with
  | some f => some f
  | none => above s h)
theorem bit_hi {s F f : Nat} (hs : s < 2 ^ F) (hf : F ≤ f) : s.testBit f = false := Nat.testBit_lt_two_pow (Nat.lt_of_lt_of_le hs (Nat.pow_le_pow_right (by decide) hf))
theorem abv_none {s F : Nat} (hs : s < 2 ^ F) : ∀ (n f : Nat), F ≤ f → abv s n f = none := by
  intro n
  induction n with
  | zero => intro f _; rfl
  | succ n ih =>
    intro f hf
    unfold abv
    rw [bit_hi hs hf]
    exact ih (f + 1) (by omega)
theorem abv_some {s : Nat} : ∀ {n f k : Nat}, abv s n f = some k → f ≤ k ∧ k < f + n ∧ s.testBit k = true := by
  intro n
  induction n with
  | zero => intro f k h; cases h
  | succ n ih =>
    intro f k h
    unfold abv at h
    split at h
    · rename_i hb
      cases h
      exact ⟨Nat.le_refl _, by omega, hb⟩
    · obtain ⟨h1, h2, h3⟩ := ih h
      exact ⟨by omega, by omega, h3⟩
theorem blw_some {s : Nat} : ∀ {f k : Nat}, blw s f = some k → k < f ∧ s.testBit k = true := by
  intro f
  induction f with
  | zero => intro k h; cases h
  | succ f ih =>
    intro k h
    unfold blw at h
    split at h
    · rename_i hb
      cases h
      exact ⟨Nat.lt_succ_self _, hb⟩
    · obtain ⟨h1, h2⟩ := ih h
      exact ⟨by omega, h2⟩
theorem nxt_some {s h f : Nat} {u : Bool} (hn : nxt s h u = some f) : s.testBit f = true ∧ f ≠ h := by
  unfold nxt above at hn
  split at hn
  · split at hn
    · rename_i k hk
      cases hn
      obtain ⟨h1, h2, h3⟩ := abv_some hk
      exact ⟨h3, by omega⟩
    · obtain ⟨h1, h2⟩ := blw_some hn
      exact ⟨h2, by omega⟩
  · split at hn
    · rename_i k hk
      cases hn
      obtain ⟨h1, h2⟩ := blw_some hk
      exact ⟨h2, by omega⟩
    · obtain ⟨h1, h2, h3⟩ := abv_some hn
      exact ⟨h3, by omega⟩
theorem bit_lt {s F f : Nat} (hs : s < 2 ^ F) (hb : s.testBit f = true) : f < F := by
  apply Classical.byContradiction
  intro z
  rw [bit_hi hs (by omega)] at hb
  cases hb
/-- how far: floors between -/
def dst (a b : Nat) : Nat := if a < b then b - a else a - b
/-- a lift beside the house: floor, second, lights, up, and when it came to its latest stop -/
abbrev Tr : Type := Nat × Int × Nat × Bool × Int
/-- a ride: sp seconds a floor, st f n seconds at f with n lights -/
def tgo (sp : Int) (st : Nat → Nat → Int) (t : Tr) : Option Tr := match nxt t.2.2.1 t.1 t.2.2.2.1 with
  | none => none
  | some f =>
    let c := w32 (t.2.1 + w32 (sp * (dst t.1 f : Int)))
    some (f, w32 (c + st f (pop t.2.2.1)), dif t.2.2.1 (2 ^ f), decide (t.1 < f), c)
/-! ===== laws, as the reference codes them ===== -/
def evs (w : Nat → Int) (stk : List Int) (c : Int) : List Int :=
  if c < 3000 then (if c < 1000 then c else w (c - 1000).toNat) :: stk else match stk with
    | b :: a :: t => (let v := if c = 3000 then a + b else if c = 3001 then a - b else a * b
      if v > 1000000 then 1000000 else if v < -1000000 then -1000000 else v) :: t
    | t => t
/-- the stack behind the first n codes -/
def evn (w : Nat → Int) (c : Nat → Int) : Nat → List Int
  | 0 => []
  | n + 1 => evs w (evn w c n) (c n)
def cl999 (v : Int) : Int := if v < 0 then 0 else if v > 999 then 999 else v
def lawV (w : Nat → Int) (c : Nat → Int) (n : Nat) : Int := cl999 ((evn w c n).getLastD 0)
/-- a law that can be reckoned, with words of which al says that it may have them -/
def okLaw (al : Nat → Bool) (c : Nat → Int) (n : Nat) : Prop := n ≤ 900 ∧ (∀ k, k < n → 0 ≤ c k ∧ (c k < 3000 → c k < 1000 ∨ (c k < 1006 ∧ al (c k - 1000).toNat = true)) ∧ (3000 ≤ c k → c k ≤ 3002 ∧ ∀ w, 2 ≤ (evn w c k).length)) ∧ ∀ w, (evn w c n).length = 1
theorem evn_congr {al : Nat → Bool} {w w' c : Nat → Int} (hw : ∀ i, i < 6 → al i = true → w i = w' i) : ∀ n : Nat, (∀ k, k < n → 0 ≤ c k ∧ (c k < 3000 → c k < 1000 ∨ (c k < 1006 ∧ al (c k - 1000).toNat = true))) → evn w c n = evn w' c n := by
  intro n
  induction n with
  | zero => intro _; rfl
  | succ n ih =>
    intro h
    show evs w (evn w c n) (c n) = evs w' (evn w' c n) (c n)
    rw [ih (fun k hk => h k (by omega))]
    have hn := h n (by omega)
    unfold evs
    by_cases h3 : c n < 3000
    · rw [if_pos h3, if_pos h3]
      by_cases h1 : c n < 1000
      · rw [if_pos h1, if_pos h1]
      · rw [if_neg h1, if_neg h1]
        rcases hn.2 h3 with q | ⟨q1, q2⟩
        · exact absurd q h1
        · rw [hw _ (by omega) q2]
    · rw [if_neg h3, if_neg h3]
theorem lawV_congr {al : Nat → Bool} {w w' c : Nat → Int} {n : Nat} (hok : okLaw al c n) (hw : ∀ i, i < 6 → al i = true → w i = w' i) : lawV w c n = lawV w' c n := by
  unfold lawV
  rw [evn_congr hw n (fun k hk => ⟨(hok.2.1 k hk).1, (hok.2.1 k hk).2.1⟩)]
theorem lcB_lt {x y : Int} (h1 : -9223372036854775808 ≤ x) (h2 : x < 9223372036854775808) (h3 : -9223372036854775808 ≤ y) (h4 : y < 9223372036854775808) : o_lcmp x y < 0 ↔ x < y := lcmp_lt (w64_of h1 h2) (w64_of h3 h4)
theorem lcB_gt {x y : Int} (h1 : -9223372036854775808 ≤ x) (h2 : x < 9223372036854775808) (h3 : -9223372036854775808 ≤ y) (h4 : y < 9223372036854775808) : 0 < o_lcmp x y ↔ y < x := lcmp_gt (w64_of h1 h2) (w64_of h3 h4)
theorem lcB_le {x y : Int} (h1 : -9223372036854775808 ≤ x) (h2 : x < 9223372036854775808) (h3 : -9223372036854775808 ≤ y) (h4 : y < 9223372036854775808) : o_lcmp x y ≤ 0 ↔ x ≤ y := lcmp_le (w64_of h1 h2) (w64_of h3 h4)
theorem lcB_ge {x y : Int} (h1 : -9223372036854775808 ≤ x) (h2 : x < 9223372036854775808) (h3 : -9223372036854775808 ≤ y) (h4 : y < 9223372036854775808) : 0 ≤ o_lcmp x y ↔ y ≤ x := lcmp_ge (w64_of h1 h2) (w64_of h3 h4)
theorem lcB_z {x y : Int} (h1 : -9223372036854775808 ≤ x) (h2 : x < 9223372036854775808) (h3 : -9223372036854775808 ≤ y) (h4 : y < 9223372036854775808) : o_lcmp x y = 0 ↔ x = y := lcmp_z (w64_of h1 h2) (w64_of h3 h4)
theorem mul_bd {a b : Int} (ha : -1000000 ≤ a ∧ a ≤ 1000000) (hb : -1000000 ≤ b ∧ b ≤ 1000000) : -1000000000000 ≤ a * b ∧ a * b ≤ 1000000000000 := by
  have h := Nat.mul_le_mul (show a.natAbs ≤ 1000000 by omega) (show b.natAbs ≤ 1000000 by omega)
  rw [← Int.natAbs_mul] at h
  omega
theorem up_o (m : Mem) {a k b j : Nat} (x : Int) (h : b ≠ a) : up m a k x b j = m b j := up_ne m x (Or.inl h)
theorem up_k (m : Mem) {a k j : Nat} (x : Int) (h : j ≠ k) : up m a k x a j = m a j := up_ne m x (Or.inr h)
/-- the stack of the reference's reckoning, in cell 216 -/
def RS (m : Mem) (stk : List Int) : Prop := ∀ j, j < stk.length → m 216 j = stk.getD (stk.length - 1 - j) 0
theorem RS.push {m : Mem} {stk : List Int} {v : Int} (h : RS m stk) : RS (up m 216 stk.length v) (v :: stk) := by
  intro j hj
  rw [List.length_cons] at hj ⊢
  by_cases q : j = stk.length
  · subst q
    rw [up_eq]
    simp
  · rw [up_k m v q, h j (by omega)]
    rw [show stk.length + 1 - 1 - j = (stk.length - 1 - j) + 1 by omega]
    simp
theorem RS.two {m : Mem} {a b : Int} {t : List Int} (h : RS m (b :: a :: t)) : m 216 t.length = a ∧ m 216 (t.length + 1) = b := by
  refine ⟨?_, ?_⟩
  · rw [h t.length (by simp; omega)]
    rw [show (b :: a :: t).length - 1 - t.length = 1 by simp]
    rfl
  · rw [h (t.length + 1) (by simp)]
    rw [show (b :: a :: t).length - 1 - (t.length + 1) = 0 by simp]
    rfl
theorem RS.tail {m : Mem} {a : Int} {t : List Int} (h : RS m (a :: t)) : RS m t := by
  intro j hj
  rw [h j (by simp; omega)]
  rw [show (a :: t).length - 1 - j = (t.length - 1 - j) + 1 by simp; omega]
  simp
theorem RS.last {m : Mem} {stk : List Int} (h : RS m stk) (hl : stk.length = 1) : m 216 0 = stk.getLastD 0 := by
  match stk, hl with
  | [a], _ => rw [h 0 (by simp)]; rfl
theorem evs_len {w : Nat → Int} {s : List Int} {c : Int} : (evs w s c).length = if c < 3000 then s.length + 1 else if 2 ≤ s.length then s.length - 1 else s.length := by
  unfold evs
  split
  · simp
  · split
    · simp
    · rename_i h
      match s, h with
      | [], _ => rfl
      | [a], _ => rfl
      | b :: a :: t, h => exact absurd rfl (h b a t)
theorem evs_bd {al : Nat → Bool} {w : Nat → Int} {s : List Int} {c : Int} (hw : ∀ i, i < 6 → al i = true → -1000000 ≤ w i ∧ w i ≤ 1000000) (hc : 0 ≤ c ∧ (c < 3000 → c < 1000 ∨ (c < 1006 ∧ al (c - 1000).toNat = true))) (h : ∀ v ∈ s, -1000000 ≤ v ∧ v ≤ 1000000) : ∀ v ∈ evs w s c, -1000000 ≤ v ∧ v ≤ 1000000 := by
  intro v hv
  unfold evs at hv
  split at hv
  · rename_i h3
    rcases List.mem_cons.mp hv with rfl | hv
    · split
      · omega
      · rename_i h1
        rcases hc.2 h3 with q | ⟨q1, q2⟩
        · exact absurd q h1
        · exact hw _ (by omega) q2
    · exact h v hv
  · split at hv
    · rcases List.mem_cons.mp hv with rfl | hv
      · dsimp only
        repeat (first | omega | split)
      · exact h v (List.mem_cons_of_mem _ (List.mem_cons_of_mem _ hv))
    · exact h v hv
theorem evn_bd {al : Nat → Bool} {w c : Nat → Int} (hw : ∀ i, i < 6 → al i = true → -1000000 ≤ w i ∧ w i ≤ 1000000) : ∀ (n : Nat), (∀ k, k < n → 0 ≤ c k ∧ (c k < 3000 → c k < 1000 ∨ (c k < 1006 ∧ al (c k - 1000).toNat = true))) → ∀ v ∈ evn w c n, -1000000 ≤ v ∧ v ≤ 1000000 := by
  intro n
  induction n with
  | zero => intro _ v hv; cases hv
  | succ n ih => intro hc; exact evs_bd hw (hc n (by omega)) (ih (fun k hk => hc k (by omega)))
theorem evn_len {w c : Nat → Int} : ∀ n : Nat, (evn w c n).length ≤ n := by
  intro n
  induction n with
  | zero => exact Nat.le_refl 0
  | succ n ih =>
    show (evs w (evn w c n) (c n)).length ≤ n + 1
    rw [evs_len]
    repeat (first | omega | split)
def s216 (a k : Nat) : Bool := a == 216
/-! ===== the house as the reference keeps it: g is the row of all numbers ===== -/
def alw (law i : Nat) : Bool := if law = 0 then i ≤ 3 else i == 0 || i == 4 || i == 5
def LawOk (g : Nat → Int) (law : Nat) : Prop := g (4 + law) = 0 ∨ (g (4 + law) = 1 ∧ ∃ fr n : Nat, g (6 + law) = fr ∧ g (8 + law) = n ∧ fr + n ≤ 900 ∧ okLaw (alw law) (fun k => g (458 + fr + k)) n)
def lawOf (g : Nat → Int) (law : Nat) (w : Nat → Int) : Int := lawV w (fun k => g (458 + (g (6 + law)).toNat + k)) (g (8 + law)).toNat
def stW (l f n : Nat) (i : Nat) : Int := if i = 0 then f else if i = 4 then n else if i = 5 then l else 0
def ftW (u : Int) (ld ag : Int) (f : Nat) (i : Nat) : Int := if i = 0 then f else if i = 1 then u else if i = 2 then ld else if i = 3 then ag else 0
/-- how long lift l stops at f with n lights -/
def stopV (g : Nat → Int) (l f n : Nat) : Int := if g 5 = 0 then g (25 + l) else lawOf g 1 (stW l f n)
/-- a floor on foot from f on, for p -/
def stepV (g : Nat → Int) (p f : Nat) (u : Int) : Int := if g 4 = 0 then (if u = 1 then 10 else 6) else lawOf g 0 (ftW u (g (36 + p)) (g (44 + p)) f)
def footUp (g : Nat → Int) (p f : Nat) : Nat → Int
  | 0 => 0
  | n + 1 => footUp g p f n + stepV g p (f + n) 1
def footDn (g : Nat → Int) (p f : Nat) : Nat → Int
  | 0 => 0
  | n + 1 => footDn g p f n + stepV g p (f - n) 0
def footV (g : Nat → Int) (p f t : Nat) : Int := if f < t then footUp g p f (t - f) else footDn g p f (f - t)
theorem cl999_bd (v : Int) : 0 ≤ cl999 v ∧ cl999 v ≤ 999 := by unfold cl999; repeat (first | omega | split)
theorem lawOf_bd (g : Nat → Int) (law : Nat) (w : Nat → Int) : 0 ≤ lawOf g law w ∧ lawOf g law w ≤ 999 := cl999_bd _
theorem stepV_bd (g : Nat → Int) (p f : Nat) (u : Int) : 0 ≤ stepV g p f u ∧ stepV g p f u ≤ 999 := by
  unfold stepV
  split
  · split <;> omega
  · exact lawOf_bd _ _ _
theorem footUp_bd (g : Nat → Int) (p f n : Nat) : 0 ≤ footUp g p f n ∧ footUp g p f n ≤ 999 * n := by
  induction n with
  | zero => exact ⟨Int.le_refl _, Int.le_refl _⟩
  | succ n ih => have := stepV_bd g p (f + n) 1; unfold footUp; omega
theorem footDn_bd (g : Nat → Int) (p f n : Nat) : 0 ≤ footDn g p f n ∧ footDn g p f n ≤ 999 * n := by
  induction n with
  | zero => exact ⟨Int.le_refl _, Int.le_refl _⟩
  | succ n ih => have := stepV_bd g p (f - n) 0; unfold footDn; omega
def optI (o : Option Nat) : Int := match o with
  | some f => f
  | none => -1
def sT (a k : Nat) : Bool := (a == 211 && (decide (18 ≤ k) && decide (k ≤ 23))) || a == 216 || a == 217
def s1617 (a k : Nat) : Bool := a == 216 || a == 217
/-- the reference's ride beside the house: fields 18 to 23 of cell 211 -/
def TM (m : Mem) (l : Nat) (t : Tr) : Prop := m 211 18 = l ∧ m 211 19 = t.1 ∧ m 211 20 = t.2.1 ∧ m 211 21 = t.2.2.1 ∧ m 211 23 = (if t.2.2.2.1 = true then 1 else 0)
def TMc (m : Mem) (l : Nat) (t : Tr) : Prop := TM m l t ∧ m 211 22 = t.2.2.2.2
/-- how lift l stands -/
def liftT (g : Nat → Int) (l : Nat) : Tr := ((g (60 + l)).toNat, g (63 + l), (g (66 + l)).toNat, decide (g (69 + l) = 1), 0)
/-- a ride beside the house that can be: floors, lights within F floors -/
def tOk (F : Nat) (t : Tr) : Prop := F ≤ 12 ∧ t.1 < F ∧ t.2.2.1 < 2 ^ F
theorem lt4096 {s F : Nat} (h : s < 2 ^ F) (hF : F ≤ 12) : s < 4096 := Nat.lt_of_lt_of_le h (Nat.pow_le_pow_right (by decide) hF)
theorem tgo_ok {F : Nat} {t t' : Tr} {sp : Int} {st : Nat → Nat → Int} (h : tOk F t) (hg : tgo sp st t = some t') : tOk F t' ∧ t.2.2.1.testBit t'.1 = true ∧ t'.2.2.1 = dif t.2.2.1 (2 ^ t'.1) := by
  unfold tgo at hg
  split at hg
  · cases hg
  · rename_i f hf
    cases hg
    obtain ⟨h1, h2⟩ := nxt_some hf
    exact ⟨⟨h.1, bit_lt h.2.2 h1, Nat.lt_of_le_of_lt (dif_le _ _) h.2.2⟩, h1, rfl⟩
/-- rides on till f, if f is lit -/
def rto (sp : Int) (st : Nat → Nat → Int) (f : Nat) : Nat → Tr → Option Tr
  | 0, _ => none
  | n + 1, t => if t.2.2.1.testBit f then (match tgo sp st t with
    | none => none
    | some t' => if t'.1 = f then some t' else rto sp st f n t') else none
theorem popN_dif {s f : Nat} (hb : s.testBit f = true) : ∀ n : Nat, popN (dif s (2 ^ f)) n + (if f < n then 1 else 0) = popN s n := by
  intro n
  induction n with
  | zero => rfl
  | succ n ih =>
    unfold popN
    by_cases h : f = n
    · subst h
      have hbn : (dif s (2 ^ f)).testBit f = false := by rw [dif_bit, Nat.testBit_two_pow]; simp
      rw [if_neg (show ¬ f < f by omega)] at ih
      rw [hbn, hb, if_pos (show f < f + 1 by omega)]
      simp only [if_true, Bool.false_eq_true, if_false]
      omega
    · have hbn : (dif s (2 ^ f)).testBit n = s.testBit n := by rw [dif_bit, Nat.testBit_two_pow]; simp [h]
      rw [hbn]
      by_cases h2 : f < n
      · rw [if_pos h2] at ih
        rw [if_pos (show f < n + 1 by omega)]
        omega
      · rw [if_neg h2] at ih
        rw [if_neg (show ¬ f < n + 1 by omega)]
        omega
theorem pop_dif {s f : Nat} (hb : s.testBit f = true) (hf : f < 12) : pop (dif s (2 ^ f)) + 1 = pop s := by
  have := popN_dif hb 12
  rw [if_pos hf] at this
  exact this
theorem nxt_lit {s h f : Nat} {u : Bool} (hb : s.testBit f = true) (hf : f < 12) (hne : f ≠ h) (hh : h < 12) : ∃ k, nxt s h u = some k := by
  have ha : h < f → ∃ k, above s h = some k := by
    intro hlt
    unfold above
    have key : ∀ n g, g ≤ f → f < g + n → ∃ k, abv s n g = some k := by
      intro n
      induction n with
      | zero => intro g h1 h2; omega
      | succ n ih =>
        intro g h1 h2
        unfold abv
        by_cases hg : s.testBit g = true
        · exact ⟨g, by rw [if_pos hg]⟩
        · rw [if_neg hg]
          exact ih (g + 1) (by
            rcases Nat.lt_or_ge g f with q | q
            · omega
            · have : g = f := by omega
              rw [this] at hg
              exact absurd hb hg) (by omega)
    exact key _ _ (by omega) (by omega)
  have hbl : f < h → ∃ k, blw s h = some k := by
    intro hlt
    have key : ∀ n, f < n → ∃ k, blw s n = some k := by
      intro n
      induction n with
      | zero => intro h1; omega
      | succ n ih =>
        intro h1
        unfold blw
        by_cases hg : s.testBit n = true
        · exact ⟨n, by rw [if_pos hg]⟩
        · rw [if_neg hg]
          exact ih (by
            rcases Nat.lt_or_ge f n with q | q
            · exact q
            · have : n = f := by omega
              rw [this] at hg
              exact absurd hb hg)
    exact key h hlt
  unfold nxt
  rcases Nat.lt_or_ge h f with q | q
  · obtain ⟨k, hk⟩ := ha q
    rw [hk]
    cases u
    · cases hq : blw s h
      · exact ⟨k, rfl⟩
      · exact ⟨_, rfl⟩
    · exact ⟨k, rfl⟩
  · obtain ⟨k, hk⟩ := hbl (by omega)
    rw [hk]
    cases u
    · exact ⟨k, rfl⟩
    · cases hq : above s h
      · exact ⟨k, rfl⟩
      · exact ⟨_, rfl⟩
