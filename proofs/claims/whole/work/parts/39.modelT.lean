/-! ===== deeds keep the house ===== -/
theorem whyP_0f {g : Nat → Int} {l f : Int} (h : whyP g l f false = 0) : (0 ≤ l ∧ l < g 2) ∧ (0 ≤ f ∧ f < g 1) ∧ (litV g l.toNat).testBit f.toNat = false ∧ ¬ g (60 + l.toNat) = f := by
  unfold whyP isL isF at h
  simp only [decide_eq_false_iff_not, Bool.false_eq_true, if_false] at h
  by_cases h1 : ¬ (0 ≤ l ∧ l < g 2) ∨ ¬ (0 ≤ f ∧ f < g 1)
  · rw [if_pos h1] at h; cases h
  · rw [if_neg h1] at h
    by_cases h2 : (litV g l.toNat).testBit f.toNat = true ∨ g (60 + l.toNat) = f
    · rw [if_pos h2] at h; cases h
    · refine ⟨by omega, by omega, ?_, fun q => h2 (Or.inr q)⟩
      cases hb : (litV g l.toNat).testBit f.toNat
      · rfl
      · exact absurd (Or.inl hb) h2
theorem whyP_0t {g : Nat → Int} {l f : Int} (h : whyP g l f true = 0) : (0 ≤ l ∧ l < g 2) ∧ (0 ≤ f ∧ f < g 1) ∧ (litV g l.toNat).testBit f.toNat = true := by
  unfold whyP isL isF at h
  simp only [decide_eq_false_iff_not, if_true] at h
  by_cases h1 : ¬ (0 ≤ l ∧ l < g 2) ∨ ¬ (0 ≤ f ∧ f < g 1)
  · rw [if_pos h1] at h; cases h
  · rw [if_neg h1] at h
    by_cases h2 : (litV g l.toNat).testBit f.toNat = true
    · exact ⟨by omega, by omega, h2⟩
    · rw [if_neg h2] at h; cases h
theorem whyR_0 {g : Nat → Int} {l : Int} (h : whyR g l = 0) : (0 ≤ l ∧ l < g 2) ∧ ¬ litV g l.toNat = 0 := by
  unfold whyR isL at h
  simp only [decide_eq_false_iff_not] at h
  by_cases h1 : ¬ (0 ≤ l ∧ l < g 2)
  · rw [if_pos h1] at h; cases h
  · rw [if_neg h1] at h
    by_cases h2 : litV g l.toNat = 0
    · rw [if_pos h2] at h; cases h
    · exact ⟨by omega, h2⟩
theorem whyO_0 {g : Nat → Int} {p : Int} (h : whyO g p = 0) : (0 ≤ p ∧ p < g 3) ∧ ¬ g (88 + p.toNat) = -1 := by
  unfold whyO isP at h
  simp only [decide_eq_false_iff_not] at h
  by_cases h1 : ¬ (0 ≤ p ∧ p < g 3)
  · rw [if_pos h1] at h; cases h
  · rw [if_neg h1] at h
    by_cases h2 : g (88 + p.toNat) = -1
    · rw [if_pos h2] at h; cases h
    · exact ⟨by omega, h2⟩
theorem whyI_0 {g : Nat → Int} {p l : Int} (h : whyI g p l = 0) : (0 ≤ p ∧ p < g 3) ∧ (0 ≤ l ∧ l < g 2) ∧ g (88 + p.toNat) = -1 ∧ g (60 + l.toNat) = g (72 + p.toNat) := by
  unfold whyI isP isL at h
  simp only [decide_eq_false_iff_not] at h
  by_cases h1 : ¬ (0 ≤ p ∧ p < g 3) ∨ ¬ (0 ≤ l ∧ l < g 2)
  · rw [if_pos h1] at h; cases h
  · rw [if_neg h1] at h
    by_cases h2 : g (88 + p.toNat) = -1
    · rw [if_pos h2] at h
      by_cases h3 : g (60 + l.toNat) = g (72 + p.toNat)
      · exact ⟨by omega, by omega, h2, h3⟩
      · rw [if_neg h3] at h; cases h
    · rw [if_neg h2] at h; cases h
theorem whyW_0 {g : Nat → Int} {p f : Int} (h : whyW g p f = 0) : (0 ≤ p ∧ p < g 3) ∧ (0 ≤ f ∧ f < g 1) ∧ g (88 + p.toNat) = -1 ∧ ¬ g (72 + p.toNat) = f := by
  unfold whyW isP isF at h
  simp only [decide_eq_false_iff_not] at h
  by_cases h1 : ¬ (0 ≤ p ∧ p < g 3) ∨ ¬ (0 ≤ f ∧ f < g 1)
  · rw [if_pos h1] at h; cases h
  · rw [if_neg h1] at h
    by_cases h2 : ¬ g (88 + p.toNat) = -1 ∨ g (72 + p.toNat) = f
    · rw [if_pos h2] at h; cases h
    · refine ⟨by omega, by omega, Classical.byContradiction fun q => h2 (Or.inl q), fun q => h2 (Or.inr q)⟩
theorem HI_upd {g g' : Nat → Int} (h : HI g) (h1 : ∀ j, j < 60 → g' j = g j) (h2 : ∀ j, 458 ≤ j → g' j = g j)
    (hL : ∀ l : Nat, (l : Int) < g 2 → (0 ≤ g' (60 + l) ∧ g' (60 + l) < g 1) ∧ (0 ≤ g' (66 + l) ∧ (g' (66 + l)).toNat < 2 ^ (g 1).toNat ∧ (g' (66 + l)).toNat.testBit (g' (60 + l)).toNat = false) ∧ (g' (69 + l) = 0 ∨ g' (69 + l) = 1))
    (hP : ∀ p : Nat, (p : Int) < g 3 → (0 ≤ g' (72 + p) ∧ g' (72 + p) < g 1) ∧ (g' (88 + p) = -1 ∨ (0 ≤ g' (88 + p) ∧ g' (88 + p) < g 2 ∧ g' (72 + p) = g' (60 + (g' (88 + p)).toNat)))) : HI g' := by
  obtain ⟨a1, a2, a3, a4, a5, a6, a7, a8⟩ := h
  have e1 := h1 1 (by omega)
  have e2 := h1 2 (by omega)
  have e3 := h1 3 (by omega)
  refine ⟨by rw [e1]; exact a1, by rw [e2]; exact a2, by rw [e3]; exact a3, LawOk_congr (by decide) h1 h2 a4, LawOk_congr (by decide) h1 h2 a5, fun l hl => ?_, fun p hp => ?_, fun f hf => ?_⟩
  · rw [e2] at hl
    rw [e1, h1 (22 + l) (by omega), h1 (25 + l) (by omega)]
    have := hL l hl
    exact ⟨this.1, this.2.1, this.2.2, (a6 l hl).2.2.2⟩
  · rw [e3] at hp
    rw [e1, e2, h1 (28 + p) (by omega), h1 (36 + p) (by omega), h1 (44 + p) (by omega), h1 (52 + p) (by omega)]
    have := hP p hp
    have := a7 p hp
    exact ⟨this.1, this.2.1, this.2.2.1, this.2.2.2.1, (hP p hp).1, (hP p hp).2⟩
  · rw [h1 (10 + f) (by omega)]
    exact a8 f hf
theorem HI_lit {g : Nat → Int} (h : HI g) {l s : Nat} (hl : (l : Int) < g 2) (hs : litOk g l s) : HI (upg g (66 + l) (s : Int)) := by
  have hL3 := h.2.1
  have hP8 := h.2.2.1
  refine HI_upd h (fun j hj => upg_ne _ _ (by omega)) (fun j hj => upg_ne _ _ (by omega)) (fun k hk => ?_) (fun p hp => ?_)
  · have hk' := h.lift hk
    rw [upg_ne _ _ (by omega), upg_ne (j := 69 + k) _ _ (by omega)]
    by_cases e : k = l
    · subst e
      rw [upg_eq]
      exact ⟨hk'.1, ⟨by omega, by rw [Int.toNat_natCast]; exact hs.1, by rw [Int.toNat_natCast]; exact hs.2⟩, hk'.2.2.1⟩
    · rw [upg_ne _ _ (by omega)]
      exact ⟨hk'.1, hk'.2.1, hk'.2.2.1⟩
  · have hp' := h.pers hp
    rw [upg_ne _ _ (by omega), upg_ne (j := 88 + p) _ _ (by omega)]
    refine ⟨hp'.2.2.2.2.1, ?_⟩
    rcases hp'.2.2.2.2.2 with q | ⟨q1, q2, q3⟩
    · exact Or.inl q
    · rw [upg_ne _ _ (by omega)]
      exact Or.inr ⟨q1, q2, q3⟩
theorem HI_out {g : Nat → Int} (h : HI g) {p : Nat} (hp : (p : Int) < g 3) : HI (upg g (88 + p) (-1)) := by
  have hL3 := h.2.1
  have hP8 := h.2.2.1
  refine HI_upd h (fun j hj => upg_ne _ _ (by omega)) (fun j hj => upg_ne _ _ (by omega)) (fun k hk => ?_) (fun q hq => ?_)
  · have hk' := h.lift hk
    rw [upg_ne _ _ (by omega), upg_ne (j := 69 + k) _ _ (by omega), upg_ne (j := 66 + k) _ _ (by omega)]
    exact ⟨hk'.1, hk'.2.1, hk'.2.2.1⟩
  · have hp' := h.pers hq
    rw [upg_ne (j := 72 + q) _ _ (by omega)]
    refine ⟨hp'.2.2.2.2.1, ?_⟩
    by_cases e : q = p
    · subst e
      rw [upg_eq]; exact Or.inl rfl
    · rw [upg_ne (j := 88 + q) _ _ (by omega)]
      rcases hp'.2.2.2.2.2 with z | ⟨q1, q2, q3⟩
      · exact Or.inl z
      · rw [upg_ne (j := 60 + (g (88 + q)).toNat) _ _ (by omega)]
        exact Or.inr ⟨q1, q2, q3⟩
theorem HI_in {g : Nat → Int} (h : HI g) {p l : Nat} (hp : (p : Int) < g 3) (hl : (l : Int) < g 2) (he : g (60 + l) = g (72 + p)) : HI (upg g (88 + p) (l : Int)) := by
  have hL3 := h.2.1
  have hP8 := h.2.2.1
  refine HI_upd h (fun j hj => upg_ne _ _ (by omega)) (fun j hj => upg_ne _ _ (by omega)) (fun k hk => ?_) (fun q hq => ?_)
  · have hk' := h.lift hk
    rw [upg_ne _ _ (by omega), upg_ne (j := 69 + k) _ _ (by omega), upg_ne (j := 66 + k) _ _ (by omega)]
    exact ⟨hk'.1, hk'.2.1, hk'.2.2.1⟩
  · have hp' := h.pers hq
    rw [upg_ne (j := 72 + q) _ _ (by omega)]
    refine ⟨hp'.2.2.2.2.1, ?_⟩
    by_cases e : q = p
    · subst e
      rw [upg_eq, Int.toNat_natCast, upg_ne _ _ (by omega)]
      exact Or.inr ⟨by omega, hl, he.symm⟩
    · rw [upg_ne (j := 88 + q) _ _ (by omega)]
      rcases hp'.2.2.2.2.2 with z | ⟨q1, q2, q3⟩
      · exact Or.inl z
      · rw [upg_ne (j := 60 + (g (88 + q)).toNat) _ _ (by omega)]
        exact Or.inr ⟨q1, q2, q3⟩
theorem HI_sec {g : Nat → Int} (h : HI g) {j : Nat} (hj : (63 ≤ j ∧ j < 66) ∨ (80 ≤ j ∧ j < 88)) (x : Int) : HI (upg g j x) := by
  have hL3 := h.2.1
  have hP8 := h.2.2.1
  refine HI_upd h (fun i hi => upg_ne _ _ (by omega)) (fun i hi => upg_ne _ _ (by omega)) (fun k hk => ?_) (fun q hq => ?_)
  · have hk' := h.lift hk
    rw [upg_ne _ _ (by omega), upg_ne (j := 69 + k) _ _ (by omega), upg_ne (j := 66 + k) _ _ (by omega)]
    exact ⟨hk'.1, hk'.2.1, hk'.2.2.1⟩
  · have hp' := h.pers hq
    rw [upg_ne (j := 72 + q) _ _ (by omega), upg_ne (j := 88 + q) _ _ (by omega)]
    refine ⟨hp'.2.2.2.2.1, ?_⟩
    rcases hp'.2.2.2.2.2 with z | ⟨q1, q2, q3⟩
    · exact Or.inl z
    · rw [upg_ne (j := 60 + (g (88 + q)).toNat) _ _ (by omega)]
      exact Or.inr ⟨q1, q2, q3⟩
theorem HI_on {g : Nat → Int} (h : HI g) {p f : Nat} (hp : (p : Int) < g 3) (hf : (f : Int) < g 1) (hn : g (88 + p) = -1) : HI (upg g (72 + p) (f : Int)) := by
  have hL3 := h.2.1
  have hP8 := h.2.2.1
  refine HI_upd h (fun j hj => upg_ne _ _ (by omega)) (fun j hj => upg_ne _ _ (by omega)) (fun k hk => ?_) (fun q hq => ?_)
  · have hk' := h.lift hk
    rw [upg_ne _ _ (by omega), upg_ne (j := 69 + k) _ _ (by omega), upg_ne (j := 66 + k) _ _ (by omega)]
    exact ⟨hk'.1, hk'.2.1, hk'.2.2.1⟩
  · have hp' := h.pers hq
    rw [upg_ne (j := 88 + q) _ _ (by omega)]
    by_cases e : q = p
    · subst e
      rw [upg_eq]; exact ⟨⟨by omega, hf⟩, Or.inl hn⟩
    · rw [upg_ne (j := 72 + q) _ _ (by omega)]
      refine ⟨hp'.2.2.2.2.1, ?_⟩
      rcases hp'.2.2.2.2.2 with z | ⟨q1, q2, q3⟩
      · exact Or.inl z
      · rw [upg_ne (j := 60 + (g (88 + q)).toNat) _ _ (by omega)]
        exact Or.inr ⟨q1, q2, q3⟩
theorem HI_get {g : Nat → Int} (h : HI g) {p l : Nat} (hp : (p : Int) < g 3) (hl : (l : Int) < g 2) (he : g (60 + l) = g (72 + p)) : HI (getG g p l) := by
  have hL3 := h.2.1
  unfold getG
  split
  · exact HI_sec (HI_in h hp hl he) (by omega) _
  · exact HI_in h hp hl he
theorem HI_wal {g : Nat → Int} (h : HI g) {p f : Nat} (hp : (p : Int) < g 3) (hf : (f : Int) < g 1) (hn : g (88 + p) = -1) : HI (walG g p f) := by
  have hP8 := h.2.2.1
  unfold walG
  exact HI_on (HI_sec h (by omega) _) (by rw [upg_ne _ _ (by omega)]; exact hp) (by rw [upg_ne _ _ (by omega)]; exact hf) (by rw [upg_ne _ _ (by omega)]; exact hn)
theorem HI.lifT {g : Nat → Int} (h : HI g) {l : Nat} (hl : (l : Int) < g 2) : tOk2 (g 1).toNat (liftT g l) := h.liftOk hl (h.lift hl).2.1.2.1 (h.lift hl).2.1.2.2
theorem HI_rid {g : Nat → Int} (h : HI g) {l : Nat} (hl : (l : Int) < g 2) : HI (ridG g l) := by
  unfold ridG
  cases ht : tgo (g (22 + l)) (stopV g l) (liftT g l) with
  | none => exact h
  | some t =>
    show HI (ridN g l t (g 3).toNat)
    have hok := tgo_ok2 (h.lifT hl) ht
    have hL3 := h.2.1
    have hP8 := h.2.2.1
    have hF := h.1
    have hb : t.1 < (g 1).toNat := hok.1.2.1
    have e60 : ridN g l t (g 3).toNat (60 + l) = t.1 := by unfold ridN; rw [if_pos rfl]
    have e60' : ∀ k, k < 3 → k ≠ l → ridN g l t (g 3).toNat (60 + k) = g (60 + k) := by
      intro k hk hne
      unfold ridN
      rw [if_neg (by omega), if_neg (by omega), if_neg (by omega), if_neg (by omega), if_neg (by omega), if_neg (by omega)]
    refine HI_upd h (fun j hj => ridN_hi (by omega) (by omega) (by omega)) (fun j hj => ridN_hi (by omega) (by omega) (by omega)) (fun k hk => ?_) (fun q hq => ?_)
    · have hk' := h.lift hk
      by_cases e : k = l
      · subst e
        have e66 : ridN g k t (g 3).toNat (66 + k) = t.2.2.1 := by unfold ridN; rw [if_neg (by omega), if_neg (by omega), if_pos rfl]
        have e69 : ridN g k t (g 3).toNat (69 + k) = (if t.2.2.2.1 = true then 1 else 0) := by unfold ridN; rw [if_neg (by omega), if_neg (by omega), if_neg (by omega), if_pos rfl]
        rw [e60, e66, e69, Int.toNat_natCast, Int.toNat_natCast]
        refine ⟨⟨by omega, by omega⟩, ⟨by omega, hok.1.2.2, hok.2⟩, ?_⟩
        split
        · exact Or.inr rfl
        · exact Or.inl rfl
      · have e66 : ridN g l t (g 3).toNat (66 + k) = g (66 + k) := by
          unfold ridN
          rw [if_neg (by omega), if_neg (by omega), if_neg (by omega), if_neg (by omega), if_neg (by omega), if_neg (by omega)]
        have e69 : ridN g l t (g 3).toNat (69 + k) = g (69 + k) := by
          unfold ridN
          rw [if_neg (by omega), if_neg (by omega), if_neg (by omega), if_neg (by omega), if_neg (by omega), if_neg (by omega)]
        rw [e60' k (by omega) e, e66, e69]
        exact ⟨hk'.1, hk'.2.1, hk'.2.2.1⟩
    · have hp' := h.pers hq
      have e88 : ridN g l t (g 3).toNat (88 + q) = g (88 + q) := ridN_hi (by omega) (by omega) (by omega)
      rw [e88]
      by_cases e : g (88 + q) = l
      · have e72 : ridN g l t (g 3).toNat (72 + q) = t.1 := by
          unfold ridN
          rw [if_neg (by omega), if_neg (by omega), if_neg (by omega), if_neg (by omega), if_pos ⟨by omega, by omega, by rw [show 16 + (72 + q) = 88 + q by omega]; exact e⟩]
        rw [e72, e, Int.toNat_natCast, e60]
        exact ⟨⟨by omega, by omega⟩, Or.inr ⟨by omega, hl, rfl⟩⟩
      · have e72 : ridN g l t (g 3).toNat (72 + q) = g (72 + q) := by
          unfold ridN
          rw [if_neg (by omega), if_neg (by omega), if_neg (by omega), if_neg (by omega), if_neg (fun z => e (by have := z.2.2; rw [show 16 + (72 + q) = 88 + q by omega] at this; exact this)), if_neg (by omega)]
        rw [e72]
        refine ⟨hp'.2.2.2.2.1, ?_⟩
        rcases hp'.2.2.2.2.2 with z | ⟨q1, q2, q3⟩
        · exact Or.inl z
        · rw [e60' _ (by omega) (by omega)]
          exact Or.inr ⟨q1, q2, q3⟩
/-- what deeds leave as it is -/
def Kp (g g' : Nat → Int) : Prop := ∀ j, (j < 60 ∨ 96 ≤ j) → g' j = g j
theorem Kp.rf (g : Nat → Int) : Kp g g := fun _ _ => rfl
theorem Kp.tr {g g' g'' : Nat → Int} (h : Kp g g') (h' : Kp g' g'') : Kp g g'' := fun j q => (h' j q).trans (h j q)
theorem Kp.up {g g' : Nat → Int} (h : Kp g g') {j : Nat} (hj : 60 ≤ j ∧ j < 96) (x : Int) : Kp g (upg g' j x) := fun i q => by rw [upg_ne _ _ (by omega)]; exact h i q
theorem whyN_0 {g : Nat → Int} {v : Int} (h : whyN g v = 0) : ∃ n : Nat, v = n ∧ n < 6000 ∧ whyD g (n / 1000) (argD (n / 1000) (n % 1000)).1 (argD (n / 1000) (n % 1000)).2 = 0 := by
  unfold whyN at h
  by_cases h1 : v < 0 ∨ 5999 < v
  · rw [if_pos h1] at h; cases h
  · rw [if_neg h1] at h
    refine ⟨v.toNat, by omega, by omega, h⟩
theorem litOk_or {g : Nat → Int} {l s f : Nat} (h : litOk g l s) (hf : (f : Int) < g 1) (hl : (l : Int) < g 2) (hI : HI g) (hne : ¬ g (60 + l) = f) : litOk g l (s ||| 2 ^ f) := by
  have hF := hI.1
  have hL := hI.lift hl
  refine ⟨Nat.or_lt_two_pow h.1 (two_lt (by omega)), ?_⟩
  rw [Nat.testBit_or, h.2, Nat.testBit_two_pow]
  simp
  omega
theorem HI_D {g : Nat → Int} (hI : HI g) {k a b : Nat} (h : whyD g k a b = 0) : HI (doD g k a b) ∧ Kp g (doD g k a b) := by
  have hL3 := hI.2.1
  have hP8 := hI.2.2.1
  unfold whyD at h
  unfold doD
  by_cases k0 : k = 0
  · rw [if_pos k0] at h ⊢
    have q := whyP_0f h
    simp only [Int.toNat_natCast] at q
    exact ⟨HI_lit hI q.1.2 (litOk_or (hI.litOk q.1.2) q.2.1.2 q.1.2 hI q.2.2.2), (Kp.rf g).up (by omega) _⟩
  rw [if_neg k0] at h ⊢
  by_cases k1 : k = 1
  · rw [if_pos k1] at h ⊢
    have q := whyP_0t h
    exact ⟨HI_lit hI q.1.2 (litOk_dif (hI.litOk q.1.2)), (Kp.rf g).up (by omega) _⟩
  rw [if_neg k1] at h ⊢
  by_cases k2 : k = 2
  · rw [if_pos k2] at h ⊢
    have q := whyR_0 h
    refine ⟨HI_rid hI q.1.2, ?_⟩
    unfold ridG
    cases ht : tgo (g (22 + a)) (stopV g a) (liftT g a) with
    | none => exact Kp.rf g
    | some t =>
      intro j hj
      have : j < 60 ∨ 88 ≤ j := by omega
      exact ridN_hi (by omega) (by omega) this
  rw [if_neg k2] at h ⊢
  by_cases k3 : k = 3
  · rw [if_pos k3] at h ⊢
    have q := whyO_0 h
    exact ⟨HI_out hI q.1.2, (Kp.rf g).up (by omega) _⟩
  rw [if_neg k3] at h ⊢
  by_cases k4 : k = 4
  · rw [if_pos k4] at h ⊢
    have q := whyI_0 h
    simp only [Int.toNat_natCast] at q
    refine ⟨HI_get hI q.1.2 q.2.1.2 q.2.2.2, ?_⟩
    unfold getG
    split
    · exact ((Kp.rf g).up (by omega) _).up (by omega) _
    · exact (Kp.rf g).up (by omega) _
  rw [if_neg k4] at h ⊢
  have q := whyW_0 h
  simp only [Int.toNat_natCast] at q
  refine ⟨HI_wal hI q.1.2 q.2.1.2 q.2.2.1, ?_⟩
  unfold walG
  exact ((Kp.rf g).up (by omega) _).up (by omega) _
theorem HI_N {g : Nat → Int} (hI : HI g) {v : Int} (h : whyN g v = 0) : HI (doN g v) ∧ Kp g (doN g v) := by
  obtain ⟨n, rfl, hn, hw⟩ := whyN_0 h
  unfold doN
  rw [Int.toNat_natCast]
  exact HI_D hI hw
theorem tgo_lit {g : Nat → Int} (hI : HI g) {l : Nat} (hl : (l : Int) < g 2) (h : ¬ litV g l = 0) : ∃ t, tgo (g (22 + l)) (stopV g l) (liftT g l) = some t := by
  cases ht : tgo (g (22 + l)) (stopV g l) (liftT g l) with
  | none => exact absurd (tgo_none (hI.lifT hl) ht) h
  | some t => exact ⟨t, rfl⟩
