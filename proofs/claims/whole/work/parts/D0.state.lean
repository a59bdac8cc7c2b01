/-! ===== the row below 1358 alone matters ===== -/
theorem evn_cc {w c c' : Nat → Int} : ∀ n : Nat, (∀ k, k < n → c' k = c k) → evn w c' n = evn w c n := by
  intro n
  induction n with
  | zero => intro _; rfl
  | succ n ih =>
    intro h
    show evs w (evn w c' n) (c' n) = evs w (evn w c n) (c n)
    rw [ih (fun k hk => h k (by omega)), h n (by omega)]
theorem okLaw_cc {al : Nat → Bool} {c c' : Nat → Int} {n : Nat} (e : ∀ k, k < n → c' k = c k) (h : okLaw al c n) : okLaw al c' n := by
  refine ⟨h.1, fun k hk => ?_, fun w => by rw [evn_cc n e]; exact h.2.2 w⟩
  have h9 := h.2.1 k hk
  rw [e k hk]
  exact ⟨h9.1, h9.2.1, fun q => ⟨(h9.2.2 q).1, fun w => by rw [evn_cc k (fun i hi => e i (by omega))]; exact (h9.2.2 q).2 w⟩⟩
theorem LawOk_B {g g' : Row} {law : Nat} (hl : law < 2) (h1 : ∀ j, j < 60 → g' j = g j) (h2 : ∀ j, 458 ≤ j → j < 1358 → g' j = g j) (h : LawOk g law) : LawOk g' law := by
  unfold LawOk at h ⊢
  rw [h1 (4 + law) (by omega), h1 (6 + law) (by omega), h1 (8 + law) (by omega)]
  rcases h with h | ⟨h, fr, n, e1, e2, e3, e4⟩
  · exact Or.inl h
  · exact Or.inr ⟨h, fr, n, e1, e2, e3, okLaw_cc (fun k hk => h2 _ (by omega) (by omega)) e4⟩
/-- two rows that agree where the house and its state stand -/
def Ag (g g' : Row) : Prop := ∀ j, (j < 96 ∨ 458 ≤ j) → j < 1358 → g' j = g j
theorem Ag.rf (g : Row) : Ag g g := fun _ _ _ => rfl
theorem Ag.tr {g g' g'' : Row} (h : Ag g g') (h' : Ag g' g'') : Ag g g'' := fun j q r => (h' j q r).trans (h j q r)
theorem Ag.lo {g g' : Row} (h : Ag g g') {j : Nat} (hj : j < 96) : g' j = g j := h j (Or.inl hj) (by omega)
theorem Ag.hi {g g' : Row} (h : Ag g g') {j : Nat} (h1 : 458 ≤ j) (h2 : j < 1358) : g' j = g j := h j (Or.inr h1) h2
theorem HI.ag {g g' : Row} (h : HI g) (e : Ag g g') : HI g' := by
  obtain ⟨a1, a2, a3, a4, a5, a6, a7, a8⟩ := h
  have h1 : ∀ j, j < 96 → g' j = g j := fun j hj => e.lo hj
  have e1 := h1 1 (by omega)
  have e2 := h1 2 (by omega)
  have e3 := h1 3 (by omega)
  refine ⟨by rw [e1]; exact a1, by rw [e2]; exact a2, by rw [e3]; exact a3, LawOk_B (by decide) (fun j hj => h1 j (by omega)) (fun j p q => e.hi p q) a4, LawOk_B (by decide) (fun j hj => h1 j (by omega)) (fun j p q => e.hi p q) a5, fun l hl => ?_, fun p hp => ?_, fun f hf => ?_⟩
  · rw [e2] at hl
    rw [e1, h1 (60 + l) (by omega), h1 (66 + l) (by omega), h1 (69 + l) (by omega), h1 (22 + l) (by omega), h1 (25 + l) (by omega)]
    exact a6 l hl
  · rw [e3] at hp
    have := a7 p hp
    rw [e1, e2, h1 (28 + p) (by omega), h1 (36 + p) (by omega), h1 (44 + p) (by omega), h1 (52 + p) (by omega), h1 (72 + p) (by omega), h1 (88 + p) (by omega)]
    refine ⟨this.1, this.2.1, this.2.2.1, this.2.2.2.1, this.2.2.2.2.1, ?_⟩
    rcases this.2.2.2.2.2 with q | ⟨q1, q2, q3⟩
    · exact Or.inl q
    · rw [h1 (60 + (g (88 + p)).toNat) (by omega)]
      exact Or.inr ⟨q1, q2, q3⟩
  · rw [h1 (10 + f) (by omega)]
    exact a8 f hf
theorem lawOf_B {g g' : Row} {law : Nat} (hl : law < 2) (h1 : ∀ j, j < 60 → g' j = g j) (h2 : ∀ j, 458 ≤ j → j < 1358 → g' j = g j) (hL : LawOk g law) (h0 : ¬ g (4 + law) = 0) (w : Nat → Int) : lawOf g' law w = lawOf g law w := by
  rcases hL with q | ⟨_, fr, n, e1, e2, e3, _⟩
  · exact absurd q h0
  · unfold lawOf lawV
    rw [h1 (6 + law) (by omega), h1 (8 + law) (by omega), e1, e2, Int.toNat_natCast, Int.toNat_natCast, evn_cc (c := fun k => g (458 + fr + k)) (c' := fun k => g' (458 + fr + k)) n (fun k hk => h2 _ (by omega) (by omega))]
theorem stopV_B {g g' : Row} (hI : HI g) (h1 : ∀ j, j < 60 → g' j = g j) (h2 : ∀ j, 458 ≤ j → j < 1358 → g' j = g j) {l f n : Nat} (hl : l < 3) : stopV g' l f n = stopV g l f n := by
  unfold stopV
  rw [h1 5 (by omega), h1 (25 + l) (by omega)]
  by_cases q : g 5 = 0
  · rw [if_pos q, if_pos q]
  · rw [if_neg q, if_neg q, lawOf_B (by decide) h1 h2 hI.law1 q]
theorem stepV_B {g g' : Row} (hI : HI g) (h1 : ∀ j, j < 60 → g' j = g j) (h2 : ∀ j, 458 ≤ j → j < 1358 → g' j = g j) {p f : Nat} {u : Int} (hp : p < 8) : stepV g' p f u = stepV g p f u := by
  unfold stepV
  rw [h1 4 (by omega), h1 (36 + p) (by omega), h1 (44 + p) (by omega)]
  by_cases q : g 4 = 0
  · rw [if_pos q, if_pos q]
  · rw [if_neg q, if_neg q, lawOf_B (by decide) h1 h2 hI.law0 q]
theorem footV_B {g g' : Row} (hI : HI g) (h1 : ∀ j, j < 60 → g' j = g j) (h2 : ∀ j, 458 ≤ j → j < 1358 → g' j = g j) {p f t : Nat} (hp : p < 8) : footV g' p f t = footV g p f t := by
  have hu : ∀ n, footUp g' p f n = footUp g p f n := by
    intro n
    induction n with
    | zero => rfl
    | succ n ih => unfold footUp; rw [ih, stepV_B hI h1 h2 hp]
  have hd : ∀ n, footDn g' p f n = footDn g p f n := by
    intro n
    induction n with
    | zero => rfl
    | succ n ih => unfold footDn; rw [ih, stepV_B hI h1 h2 hp]
  unfold footV
  rw [hu, hd]
theorem HouR.ag {g g' : Row} {m : Mem} {n : Nat} (hI : HI g) (e : Ag g g') (h : HouR g m n) : HouR g' m n := by
  have k1 : ∀ j, j < 60 → g' j = g j := fun j hj => e.lo (by omega)
  have k2 : ∀ j, 458 ≤ j → j < 1358 → g' j = g j := fun j p q => e.hi p q
  have h2 := hI.2.1
  have h3 := hI.2.2.1
  unfold HouR
  rw [k1 0 (by omega), k1 1 (by omega), k1 2 (by omega), k1 3 (by omega)]
  refine ⟨h.1, fun f hf => by rw [k1 (10 + f) (by omega)]; exact h.2.1 f hf, fun l hl => ?_, fun p hp => ?_⟩
  · rw [k1 (22 + l) (by omega)]
    refine ⟨(h.2.2.1 l hl).1, fun f hf k hk1 hk2 => ?_⟩
    rw [stopV_B hI k1 k2 (by omega)]
    exact (h.2.2.1 l hl).2 f hf k hk1 hk2
  · rw [k1 (28 + p) (by omega), k1 (36 + p) (by omega), k1 (44 + p) (by omega), k1 (52 + p) (by omega)]
    refine ⟨(h.2.2.2 p hp).1, fun f hf => ?_⟩
    rw [stepV_B hI k1 k2 (by omega), stepV_B hI k1 k2 (by omega), footV_B hI k1 k2 (by omega)]
    exact (h.2.2.2 p hp).2 f hf
theorem NowR.ag {g g' : Row} {m : Mem} {n : Nat} (hI : HI g) (e : Ag g g') (h : NowR g m n) : NowR g' m n := NowR.cg (e.lo (by decide)) (e.lo (by decide)) (fun j _ q => e.lo q) hI.2.1.2 hI.2.2.1.2 h
/-! ===== the state of both sides ===== -/
/-- the deeds that can be undone: the class's row of past states beside the reference's -/
def PastR (g : Row) (m : Mem) (pa n : Nat) : Prop := ∀ k, k < n → HI (undG g k) ∧ NowR (undG g k) m (77 + 8 * ((pa + 11 + k - n) % 11))
def gim (g : Row) (i : Nat) : Row := fun j => g (1358 * (i + 1) + j)
def ImgR (g : Row) (m : Mem) : Prop := ∀ i, i < 2 → m 64 i = m 213 i ∧ (¬ m 64 i = 0 → HI (gim g i) ∧ HouR (gim g i) m (173 + 19 * i) ∧ NowR (gim g i) m (184 + 19 * i))
def TrsR (m : Mem) : Prop := ∀ i, i < 4 → (0 ≤ m 221 i ∧ m 221 i ≤ 40) ∧ (m 220 i = -1 ∨ (0 ≤ m 220 i ∧ m 220 i ≤ 3)) ∧ TraR m (165 + 2 * i) (m 220 i) (m 221 i).toNat (fun j => m 222 (40 * i + j))
def TapR (m : Mem) : Prop := m 0 1 = m 211 5 ∧ (0 ≤ m 211 5 ∧ m 211 5 ≤ 900) ∧ BT m (m 214) (m 211 5).toNat
def FauR (m : Mem) : Prop := m 2 2 = m 211 13 ∧ m 2 3 = m 211 14
def SRp (pa n : Nat) (m : Mem) : Prop := HI (m 212) ∧ HouR (m 212) m 33 ∧ NowR (m 212) m 44 ∧ (pa < 11 ∧ n ≤ 10 ∧ m 0 7 = pa ∧ m 0 8 = n ∧ m 212 96 = n ∧ PastR (m 212) m pa n) ∧ ImgR (m 212) m ∧ TrsR m ∧ TapR m ∧ FauR m
def SR (m : Mem) : Prop := ∃ pa n : Nat, SRp pa n m
theorem PastR.keep {g : Row} {m m' : Mem} {pa n : Nat} (h : PastR g m pa n) (e : ∀ a, 77 ≤ a → a ≤ 164 → m' a = m a) : PastR g m' pa n := fun k hk => ⟨(h k hk).1, (h k hk).2.keep (fun a h1 h2 => e a (by omega) (by omega))⟩
/-- all but the place that is written next -/
theorem PastR.keepB {g : Row} {m m' : Mem} {pa n : Nat} (hn : n ≤ 10) (hp : pa < 11) (h : PastR g m pa n) (e : ∀ a, 77 ≤ a → a ≤ 164 → ¬ (77 + 8 * pa < a ∧ a ≤ 77 + 8 * pa + 7) → m' a = m a) : PastR g m' pa n := fun k hk => ⟨(h k hk).1, (h k hk).2.keep (fun a h1 h2 => e a (by omega) (by omega) (by omega))⟩
theorem PastR.ag {g g' : Row} {m : Mem} {pa n : Nat} (h : PastR g m pa n) (e : ∀ k, k < n → Ag (undG g k) (undG g' k)) : PastR g' m pa n := fun k hk => ⟨(h k hk).1.ag (e k hk), (h k hk).2.ag (h k hk).1 (e k hk)⟩
theorem gim_eq {g g' : Row} (e : ∀ j, 1358 ≤ j → g' j = g j) (i : Nat) : gim g' i = gim g i := funext fun j => e _ (by omega)
theorem ImgR.keep {g g' : Row} {m m' : Mem} (h : ImgR g m) (eg : ∀ j, 1358 ≤ j → g' j = g j) (e64 : m' 64 = m 64) (e213 : m' 213 = m 213) (e : ∀ a, 173 ≤ a → a ≤ 210 → m' a = m a) : ImgR g' m' := by
  intro i hi
  rw [e64, e213, gim_eq eg]
  exact ⟨(h i hi).1, fun z => ⟨((h i hi).2 z).1, ((h i hi).2 z).2.1.keep (fun a h1 h2 => e a (by omega) (by omega)), ((h i hi).2 z).2.2.keep (fun a h1 h2 => e a (by omega) (by omega))⟩⟩
theorem TrsR.keep {m m' : Mem} (h : TrsR m) (e0 : m' 220 = m 220) (e1 : m' 221 = m 221) (e2 : m' 222 = m 222) (e : ∀ a, 165 ≤ a → a ≤ 172 → m' a = m a) : TrsR m' := by
  intro i hi
  rw [e0, e1, e2]
  exact ⟨(h i hi).1, (h i hi).2.1, (h i hi).2.2.keep (e _ (by omega) (by omega)) (e _ (by omega) (by omega))⟩
theorem TapR.keep {m m' : Mem} (h : TapR m) (e0 : m' 0 1 = m 0 1) (e5 : m' 211 5 = m 211 5) (e1 : m' 1 = m 1) (e4 : m' 214 = m 214) : TapR m' := by
  unfold TapR BT
  rw [e0, e5, e1, e4]
  exact h
theorem FauR.keep {m m' : Mem} (h : FauR m) (e2 : m' 2 2 = m 2 2) (e3 : m' 2 3 = m 2 3) (e13 : m' 211 13 = m 211 13) (e14 : m' 211 14 = m 211 14) : FauR m' := by
  unfold FauR
  rw [e2, e3, e13, e14]
  exact h
theorem Fr.rw1 {s : Nat → Nat → Bool} {m m' : Mem} (h : Fr s m m') (a : Nat) (e : ∀ k, s a k = false) : m' a = m a := funext fun k => h a k (e k)
/-- calls that touch nothing of it -/
theorem SRp.keep {pa n : Nat} {m m' : Mem} {s : Nat → Nat → Bool} (f : Fr s m m') (h : SRp pa n m) (e : ∀ a k, ((a = 0 ∧ (k = 1 ∨ k = 7 ∨ k = 8)) ∨ a = 1 ∨ (a = 2 ∧ (k = 2 ∨ k = 3)) ∨ (33 ≤ a ∧ a ≤ 51) ∨ a = 64 ∨ (77 ≤ a ∧ a ≤ 210) ∨ (a = 211 ∧ (k = 5 ∨ k = 13 ∨ k = 14)) ∨ a = 212 ∨ a = 213 ∨ a = 214 ∨ (220 ≤ a ∧ a ≤ 222)) → s a k = false) : SRp pa n m' := by
  obtain ⟨h1, h2, h3, ⟨h4, h5, h6, h7, h8, h9⟩, h10, h11, h12, h13⟩ := h
  have r : ∀ a, (a = 1 ∨ (33 ≤ a ∧ a ≤ 51) ∨ a = 64 ∨ (77 ≤ a ∧ a ≤ 210) ∨ a = 212 ∨ a = 213 ∨ a = 214 ∨ (220 ≤ a ∧ a ≤ 222)) → m' a = m a := fun a q => f.rw1 a (fun k => e a k (by omega))
  have r12 := r 212 (by omega)
  refine ⟨?_, ?_, ?_, ⟨h4, h5, ?_, ?_, ?_, ?_⟩, ?_, ?_, ?_, ?_⟩
  · rw [r12]; exact h1
  · rw [r12]; exact h2.keep (fun a p q => r a (by omega))
  · rw [r12]; exact h3.keep (fun a p q => r a (by omega))
  · rw [f 0 7 (e 0 7 (by omega))]; exact h6
  · rw [f 0 8 (e 0 8 (by omega))]; exact h7
  · rw [r12]; exact h8
  · rw [r12]; exact h9.keep (fun a p q => r a (by omega))
  · rw [r12]; exact h10.keep (fun _ _ => rfl) (r 64 (by omega)) (r 213 (by omega)) (fun a p q => r a (by omega))
  · exact h11.keep (r 220 (by omega)) (r 221 (by omega)) (r 222 (by omega)) (fun a p q => r a (by omega))
  · exact h12.keep (f 0 1 (e 0 1 (by omega))) (f 211 5 (e 211 5 (by omega))) (r 1 (by omega)) (r 214 (by omega))
  · exact h13.keep (f 2 2 (e 2 2 (by omega))) (f 2 3 (e 2 3 (by omega))) (f 211 13 (e 211 13 (by omega))) (f 211 14 (e 211 14 (by omega)))
theorem sQ_f {a k : Nat} (h : ¬ ((a = 211 ∧ (k = 0 ∨ (18 ≤ k ∧ k ≤ 31))) ∨ (216 ≤ a ∧ a ≤ 219))) : sQ a k = false := by
  cases hq : sQ a k with
  | false => rfl
  | true =>
    exfalso
    unfold sQ at hq
    simp at hq
    omega
theorem SRp.c {pa n : Nat} {m m' : Mem} (f : Fr sC m m') (h : SRp pa n m) : SRp pa n m' := h.keep f (fun a k q => sC_f (by omega))
theorem SRp.q {pa n : Nat} {m m' : Mem} (f : Fr sQ m m') (h : SRp pa n m) : SRp pa n m' := h.keep f (fun a k q => sQ_f (by omega))
