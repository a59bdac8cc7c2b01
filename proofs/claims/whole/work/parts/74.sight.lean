/-! ===== the class: what was seen ===== -/
def sSi (a _k : Nat) : Bool := decide (74 ≤ a ∧ a ≤ 76)
theorem sSi_f {a k : Nat} (h : ¬ (74 ≤ a ∧ a ≤ 76)) : sSi a k = false := decide_eq_false h
theorem Fr.toSi {m m' : Mem} (h : Fr (sA 76) m m') : Fr sSi m m' := h.mono (fun a k q => sA_f (fun z => by rw [z] at q; cases q))
theorem Fr.toSi5 {m m' : Mem} (h : Fr (sA 75) m m') : Fr sSi m m' := h.mono (fun a k q => sA_f (fun z => by rw [z] at q; cases q))
theorem HouR.si {g : Row} {m m' : Mem} (h : HouR g m 33) (f : Fr sSi m m') : HouR g m' 33 := h.keep (fun a h1 h2 => f.row a (fun _ => sSi_f (by omega)))
theorem NowR.si {g : Row} {m m' : Mem} (h : NowR g m 44) (f : Fr sSi m m') : NowR g m' 44 := h.keep (fun a h1 h2 => f.row a (fun _ => sSi_f (by omega)))
/-- how many twos, from the first on, are told -/
def lonN (sp : Int) (st : Nat → Nat → Int) (nm : Nat → Int) : Nat → Nat → Tr → Nat
  | 0, _, _ => 0
  | n + 1, i, t => match tgo sp st t with
    | none => 0
    | some t' => if nm i = (t'.1 : Int) ∧ nm (i + 1) = t'.2.2.2.2 then lonN sp st nm n (i + 2) t' + 1 else 0
theorem lonN_le (sp : Int) (st : Nat → Nat → Int) (nm : Nat → Int) : ∀ n i t, lonN sp st nm n i t ≤ n := by
  intro n
  induction n with
  | zero => intro i t; exact Nat.le_refl 0
  | succ n ih =>
    intro i t
    unfold lonN
    cases tgo sp st t with
    | none => exact Nat.zero_le _
    | some t' =>
      dsimp only
      split
      · have := ih (i + 2) t'; omega
      · omega
theorem lonN_none {sp : Int} {st : Nat → Nat → Int} {nm : Nat → Int} {n i : Nat} {t : Tr} (h : tgo sp st t = none) : lonN sp st nm n i t = 0 := by
  cases n with
  | zero => rfl
  | succ n => unfold lonN; rw [h]
theorem lonN_some {sp : Int} {st : Nat → Nat → Int} {nm : Nat → Int} {n i : Nat} {t t' : Tr} (h : tgo sp st t = some t') : lonN sp st nm (n + 1) i t = if nm i = (t'.1 : Int) ∧ nm (i + 1) = t'.2.2.2.2 then lonN sp st nm n (i + 2) t' + 1 else 0 := by
  conv => lhs; unfold lonN; rw [h]
theorem lon_fit (sp : Int) (st : Nat → Nat → Int) (nm : Nat → Int) : ∀ (n k i : Nat) (t : Tr), k ≤ n → (fit sp st nm k i t = true ↔ k ≤ lonN sp st nm n i t) := by
  intro n
  induction n with
  | zero =>
    intro k i t hk
    obtain rfl : k = 0 := by omega
    exact ⟨fun _ => Nat.le_refl _, fun _ => rfl⟩
  | succ n ih =>
    intro k i t hk
    cases k with
    | zero => exact ⟨fun _ => Nat.zero_le _, fun _ => rfl⟩
    | succ k =>
      cases hg : tgo sp st t with
      | none =>
        rw [lonN_none hg]
        unfold fit
        rw [hg]
        exact ⟨fun z => (by cases z), fun z => absurd z (by omega)⟩
      | some t' =>
        rw [lonN_some hg]
        conv => lhs; unfold fit; rw [hg]
        dsimp only
        rw [Bool.and_eq_true, Bool.and_eq_true, decide_eq_true_eq, decide_eq_true_eq, ih k (i + 2) t' (by omega)]
        by_cases h1 : nm i = (t'.1 : Int) ∧ nm (i + 1) = t'.2.2.2.2
        · rw [if_pos h1]
          exact ⟨fun z => by omega, fun z => ⟨h1.1.symm, h1.2.symm, by omega⟩⟩
        · rw [if_neg h1]
          exact ⟨fun z => absurd ⟨z.1.symm, z.2.1.symm⟩ h1, fun z => absurd z (by omega)⟩
theorem lonN_came (sp : Int) (st : Nat → Nat → Int) (nm : Nat → Int) (n i : Nat) (t : Tr) (c' : Int) : lonN sp st nm n i t = lonN sp st nm n i (t.1, t.2.1, t.2.2.1, t.2.2.2.1, c') := by cases n <;> rfl
def lonV (g nm : Row) (l N s : Nat) : Nat := lonN (g (22 + l)) (stopV g l) nm N 0 (withLit (liftT g l) s)
def maxF (g nm : Row) (l N : Nat) : Nat → Nat
  | 0 => 0
  | s + 1 => if s.testBit (g (60 + l)).toNat = true then maxF g nm l N s else if maxF g nm l N s < lonV g nm l N s then lonV g nm l N s else maxF g nm l N s
theorem okS_lon {g nm : Row} {l N n s : Nat} (hn : n ≤ N) : okS g nm l n s = true ↔ (s.testBit (g (60 + l)).toNat = false ∧ n ≤ lonV g nm l N s) := by
  unfold okS lonV
  rw [Bool.and_eq_true, ← lon_fit (g (22 + l)) (stopV g l) nm N n 0 (withLit (liftT g l) s) hn]
  unfold fitV
  cases s.testBit (g (60 + l)).toNat <;> simp
theorem maxF_i {g nm : Row} {l N s : Nat} (hb : s.testBit (g (60 + l)).toNat = false) : ((maxF g nm l N (s + 1) : Nat) : Int) = if (maxF g nm l N s : Int) < (lonV g nm l N s : Int) then (lonV g nm l N s : Int) else (maxF g nm l N s : Int) := by
  have e : maxF g nm l N (s + 1) = if maxF g nm l N s < lonV g nm l N s then lonV g nm l N s else maxF g nm l N s := by conv => lhs; unfold maxF; rw [if_neg (by rw [hb]; decide)]
  rw [e]
  by_cases h : maxF g nm l N s < lonV g nm l N s
  · rw [if_pos h, if_pos (by omega)]
  · rw [if_neg h, if_neg (by omega)]
theorem maxF_le (g nm : Row) (l N : Nat) : ∀ s, maxF g nm l N s ≤ N := by
  intro s
  induction s with
  | zero => exact Nat.zero_le _
  | succ s ih =>
    have := lonN_le (g (22 + l)) (stopV g l) nm N 0 (withLit (liftT g l) s)
    unfold maxF lonV
    repeat (first | omega | split)
theorem cntF_max {g nm : Row} {l N n : Nat} (hn : n ≤ N) (h1 : 1 ≤ n) : ∀ s, (cntF g nm l n s = 0 ↔ maxF g nm l N s < n) := by
  intro s
  induction s with
  | zero => exact ⟨fun _ => h1, fun _ => rfl⟩
  | succ s ih =>
    have h := okS_lon (g := g) (nm := nm) (l := l) (s := s) hn
    unfold cntF maxF
    by_cases hb : s.testBit (g (60 + l)).toNat = true
    · rw [if_pos hb, if_neg (fun z => by have := (h.mp z).1; rw [hb] at this; cases this)]
      omega
    · rw [if_neg hb]
      have hb' : s.testBit (g (60 + l)).toNat = false := by cases q : s.testBit (g (60 + l)).toNat <;> simp [q] at hb ⊢
      by_cases ho : okS g nm l n s = true
      · rw [if_pos ho]
        have := (h.mp ho).2
        split <;> omega
      · rw [if_neg ho]
        have : ¬ n ≤ lonV g nm l N s := fun z => ho (h.mpr ⟨hb', z⟩)
        split <;> omega
theorem odN_eq {g nm : Row} {l N : Nat} (hN : 1 ≤ N) : ∀ (n k : Nat), n + k = N + 1 → 1 ≤ k → k ≤ maxF g nm l N (2 ^ (g 1).toNat) + 1 → odN g nm l n k = if 0 < cntF g nm l N (2 ^ (g 1).toNat) then -1 else (maxF g nm l N (2 ^ (g 1).toNat) : Int) := by
  intro n
  induction n with
  | zero =>
    intro k hk h1 h2
    have hm := maxF_le g nm l N (2 ^ (g 1).toNat)
    show (-1 : Int) = _
    have := cntF_max (g := g) (nm := nm) (l := l) (Nat.le_refl N) hN (2 ^ (g 1).toNat)
    rw [if_pos (by omega)]
  | succ n ih =>
    intro k hk h1 h2
    unfold odN
    have hc := cntF_max (g := g) (nm := nm) (l := l) (N := N) (n := k) (by omega) h1 (2 ^ (g 1).toNat)
    by_cases h0 : cntF g nm l k (2 ^ (g 1).toNat) = 0
    · rw [if_pos h0]
      have h3 := hc.mp h0
      have hN := cntF_max (g := g) (nm := nm) (l := l) (Nat.le_refl N) (by omega) (2 ^ (g 1).toNat)
      rw [if_neg (by omega)]
      omega
    · rw [if_neg h0]
      exact ih (k + 1) (by omega) (by omega) (by omega)
theorem litF_hi {g nm : Row} {l n f : Nat} (hf : (g 1).toNat ≤ f) : ∀ s, s ≤ 2 ^ (g 1).toNat → litF g nm l n f s = 0 := by
  intro s
  induction s with
  | zero => intro _; rfl
  | succ s ih =>
    intro hs
    unfold litF
    rw [ih (by omega), if_neg (fun z => by rw [bit_hi (show s < 2 ^ (g 1).toNat by omega) hf] at z; cases z.2)]
theorem allF_bit {g nm : Row} {l n f : Nat} : ∀ s, ((allF g nm l n s).testBit f = true ↔ (f < (g 1).toNat ∧ litF g nm l n f s = cntF g nm l n s)) := by
  intro s
  induction s with
  | zero =>
    unfold allF
    rw [Nat.testBit_two_pow_sub_one, decide_eq_true_eq]
    exact ⟨fun z => ⟨z, rfl⟩, fun z => z.1⟩
  | succ s ih =>
    have hl := litF_cnt g nm l n f s
    unfold allF litF cntF
    by_cases ho : okS g nm l n s = true
    · rw [if_pos ho, if_pos ho, Nat.testBit_and, Bool.and_eq_true, ih]
      by_cases hb : s.testBit f = true
      · rw [if_pos ⟨ho, hb⟩]
        exact ⟨fun z => ⟨z.1.1, by omega⟩, fun z => ⟨⟨z.1, by omega⟩, hb⟩⟩
      · rw [if_neg (fun z => hb z.2)]
        exact ⟨fun z => absurd z.2 hb, fun z => absurd z.2 (by omega)⟩
    · rw [if_neg ho, if_neg ho, if_neg (fun z => ho z.1), ih]
      exact Iff.rfl
def surQ (g nm : Row) (l n : Nat) (f : Nat) : Bool := decide (0 < cntF g nm l n (2 ^ (g 1).toNat) ∧ litF g nm l n f (2 ^ (g 1).toNat) = cntF g nm l n (2 ^ (g 1).toNat))
theorem surQ_all {g nm : Row} (hI : HI g) (l n : Nat) : setN (surQ g nm l n) 12 = if cntF g nm l n (2 ^ (g 1).toNat) = 0 then 0 else allF g nm l n (2 ^ (g 1).toNat) := by
  apply Nat.eq_of_testBit_eq
  intro f
  rw [setN_bit]
  by_cases h0 : cntF g nm l n (2 ^ (g 1).toNat) = 0
  · rw [if_pos h0, Nat.zero_testBit]
    unfold surQ
    rw [decide_eq_false (show ¬ (0 < cntF g nm l n (2 ^ (g 1).toNat) ∧ _) from fun z => by omega), Bool.and_false]
  · rw [if_neg h0]
    have hb := allF_bit (g := g) (nm := nm) (l := l) (n := n) (f := f) (2 ^ (g 1).toNat)
    have h12 := hI.F12
    by_cases hf : f < (g 1).toNat
    · rw [decide_eq_true (show f < 12 by omega), Bool.true_and]
      unfold surQ
      by_cases hq : litF g nm l n f (2 ^ (g 1).toNat) = cntF g nm l n (2 ^ (g 1).toNat)
      · rw [decide_eq_true ⟨by omega, hq⟩, hb.mpr ⟨hf, hq⟩]
      · rw [decide_eq_false (fun z => hq z.2)]
        cases ha : (allF g nm l n (2 ^ (g 1).toNat)).testBit f with
        | false => rfl
        | true => exact absurd (hb.mp ha).2 hq
    · have hz := litF_hi (g := g) (nm := nm) (l := l) (n := n) (f := f) (by omega) (2 ^ (g 1).toNat) (Nat.le_refl _)
      unfold surQ
      rw [decide_eq_false (show ¬ (0 < cntF g nm l n (2 ^ (g 1).toNat) ∧ litF g nm l n f (2 ^ (g 1).toNat) = cntF g nm l n (2 ^ (g 1).toNat)) from fun z => by omega), Bool.and_false]
      cases ha : (allF g nm l n (2 ^ (g 1).toNat)).testBit f with
      | false => rfl
      | true => exact absurd (hb.mp ha).1 hf
def sCs (a k : Nat) : Bool := (a == 74 && k == 3) || a == 75
theorem sCs_S {a k : Nat} (h : sSi a k = false) : sCs a k = false := by
  unfold sCs
  have h9 : ¬ (74 ≤ a ∧ a ≤ 76) := of_decide_eq_false h
  have h1 : (a == 74) = false := by simp; omega
  have h2 : (a == 75) = false := by simp; omega
  rw [h1, h2]
  rfl
set_option maxRecDepth 4000 in
theorem l_countSet {Γ : Gm} {d : Nat} {m0 : Mem} (s : Nat) (hs12 : s < 4096) (hb0 : ∀ f, f < 12 → 0 ≤ m0 75 f ∧ m0 75 f ≤ 5000) : ∀ (n f : Nat) (M : Mem), f + n = 12 → (∀ j, j < 12 → M 75 j = if j < f then m0 75 j + (if s.testBit j = true then 1 else 0) else m0 75 j) → Fr (sA 75) m0 M → Em Γ (d + 0) MX7_countSet (fun r m' => (∀ f, f < 12 → m' 75 f = m0 75 f + (if s.testBit f = true then 1 else 0)) ∧ Fr (sA 75) m0 m') 12 [rv 74, iv s, iv f] [] M := by
  intro n
  induction n with
  | zero =>
    intro f M hf hv hF
    refine Ev.iload_n (q := 13) dX7_countSet_12 rfl rfl ?_
    refine Ev.bipush (q := 15) dX7_countSet_13 kb_12 rfl ?_
    refine Ev.icmp_ge (tgt := 42) (q := 18) dX7_countSet_15 (by decide) rfl (fun h1 => ?_) (fun h1 => ?_)
    · skip
      refine rV dX7_countSet_42 rfl ?_
      exact ⟨fun j hj => by rw [hv j hj, if_pos (by omega)], hF⟩
    · skip
      omega
  | succ n ih =>
    intro f M hf hv hF
    refine Ev.iload_n (q := 13) dX7_countSet_12 rfl rfl ?_
    refine Ev.bipush (q := 15) dX7_countSet_13 kb_12 rfl ?_
    refine Ev.icmp_ge (tgt := 42) (q := 18) dX7_countSet_15 (by decide) rfl (fun h1 => ?_) (fun h1 => ?_)
    · skip
      omega
    · skip
      refine Ev.iload_n (q := 19) dX7_countSet_18 rfl rfl ?_
      refine Ev.iconst (q := 20) dX7_countSet_19 ki_1 rfl ?_
      refine Ev.iload_n (q := 21) dX7_countSet_20 rfl rfl ?_
      refine Ev.ishl (q := 22) dX7_countSet_21 rfl ?_
      refine Ev.iand (q := 23) dX7_countSet_22 rfl ?_
      refine Ev.if_eq (tgt := 36) (q := 26) dX7_countSet_23 (by decide) rfl (fun h2 => ?_) (fun h2 => ?_)
      · skip
        have hb : ¬ s.testBit f = true := by rw [(bit_and hs12 (by omega)).mp h2]; decide
        refine iinc_2 (q := 39) dX7_countSet_36 rfl rfl rfl ?_
        refine Ev.goto (q := 12) dX7_countSet_39 (by decide) ?_
        rw [w32_of (z := (f : Int) + 1) (by omega) (by omega)]
        refine ih (f + 1) M (by omega) (fun j hj => ?_) hF
        by_cases e : j = f
        · subst e
          rw [if_pos (by omega)]
          rw [hv j hj, if_neg (by omega), if_neg hb]; omega
        · rw [show (if j < f + 1 then m0 75 j + (if s.testBit j = true then 1 else 0) else m0 75 j) = (if j < f then m0 75 j + (if s.testBit j = true then 1 else 0) else m0 75 j) by
            by_cases q : j < f
            · rw [if_pos q, if_pos (by omega)]
            · rw [if_neg q, if_neg (by omega)]]
          exact hv j hj
      · skip
        have hb : s.testBit f = true := by
          cases hq : s.testBit f with
          | true => rfl
          | false => exact absurd ((bit_and hs12 (by omega)).mpr hq) h2
        refine Ev.aload_n (q := 27) dX7_countSet_26 rfl rfl ?_
        refine gR (q := 30) dX7_countSet_27 gfX7_18 k74 r74_5 rfl rfl ?_
        refine Ev.iload_n (q := 31) dX7_countSet_30 rfl rfl ?_
        refine Ev.dup2 (q := 32) dX7_countSet_31 (fun z => by cases z) (fun z => by cases z) rfl ?_
        refine aI (q := 33) (k := f) dX7_countSet_32 k75 (by first | rfl | omega | (simp (disch := omega) only [w32_of]; omega)) (by omega) rfl ?_
        refine Ev.iconst (q := 34) dX7_countSet_33 ki_1 rfl ?_
        refine Ev.iadd (q := 35) dX7_countSet_34 rfl ?_
        refine sI (q := 36) (k := f) dX7_countSet_35 k75 (by first | rfl | omega | (simp (disch := omega) only [w32_of]; omega)) (by omega) rfl ?_
        refine iinc_2 (q := 39) dX7_countSet_36 rfl rfl rfl ?_
        refine Ev.goto (q := 12) dX7_countSet_39 (by decide) ?_
        rw [w32_of (z := (f : Int) + 1) (by omega) (by omega)]
        refine ih (f + 1) _ (by omega) (fun j hj => ?_) (hF.up rfl)
        by_cases e : j = f
        · subst e
          rw [if_pos (by omega)]
          have hbd := hb0 j (by omega)
          rw [up_eq, hv j hj, if_neg (by omega), if_pos hb, w32_of (by omega) (by omega)]
        · rw [show (if j < f + 1 then m0 75 j + (if s.testBit j = true then 1 else 0) else m0 75 j) = (if j < f then m0 75 j + (if s.testBit j = true then 1 else 0) else m0 75 j) by
            by_cases q : j < f
            · rw [if_pos q, if_pos (by omega)]
            · rw [if_neg q, if_neg (by omega)]]
          rw [up_k _ _ e]; exact hv j hj
set_option maxRecDepth 4000 in
theorem p_X7_countSet {Γ : Gm} {d : Nat} {m : Mem} (s : Nat) (hs12 : s < 4096) (hb0 : ∀ f, f < 12 → 0 ≤ m 75 f ∧ m 75 f ≤ 5000) : Ci Γ (d + 0) MX7_countSet [rv 74, iv s] m (fun r m' => m' 74 3 = w32 (m 74 3 + 1) ∧ (∀ f, f < 12 → m' 75 f = m 75 f + (if s.testBit f = true then 1 else 0)) ∧ Fr sCs m m') := by
  refine Ci.of moX7_countSet rfl rfl (fun hA hM => ?_)
  show Em Γ (d + 0) MX7_countSet _ 0 [rv 74, iv s, uv] [] m
  refine Ev.aload_n (q := 1) dX7_countSet_0 rfl rfl ?_
  refine Ev.dup (q := 2) dX7_countSet_1 (fun z => by cases z) rfl ?_
  refine gI (q := 5) dX7_countSet_2 gfX7_9 k74 rfl rfl ?_
  refine Ev.iconst (q := 6) dX7_countSet_5 ki_1 rfl ?_
  refine Ev.iadd (q := 7) dX7_countSet_6 rfl ?_
  refine pI (q := 10) dX7_countSet_7 gfX7_9 k74 rfl rfl ?_
  refine Ev.iconst (q := 11) dX7_countSet_10 ki_0 rfl ?_
  refine istore_n_2 (q := 12) dX7_countSet_11 rfl rfl rfl ?_
  refine (l_countSet (m0 := up m 74 3 (w32 (m 74 3 + 1))) s hs12 (fun f hf => by rw [up_o _ _ (by decide)]; exact hb0 f hf) 12 0 _ (by omega) (fun j hj => by rw [if_neg (by omega)]) (Fr.rf _ _)).imp ?_
  intro v m' h9
  refine ⟨?_, fun f hf => ?_, ((Fr.rf sCs m).up rfl).tr (h9.2.mono (fun a k q => ?_))⟩
  · rw [h9.2 74 3 rfl, up_eq]
  · rw [h9.1 f hf, up_o _ _ (by decide)]
  · unfold sCs at q; unfold sA; simp at q ⊢; exact q.2
set_option maxRecDepth 4000 in
theorem l_toldBy {Γ : Gm} {d : Nat} {m0 : Mem} (g num : Row) (c l s0 N T : Nat) (hc : c ∈ traC) (hI : HI g) (hl : (l : Int) < g 2) (hH : HouR g m0 33) (hN : NowR g m0 44) (hN8 : N ≤ 8) (h0 : m0 c 0 = ((2 * N : Nat) : Int)) (hnum : ∀ i, i < 2 * N → m0 (c + 1) i = num i) : ∀ (n k i : Nat) (M : Mem) (h : Nat) (tt : Int) (s : Nat) (u : Bool) (cm : Int), k + n = N → i = 2 * k → CT M 76 l (h, tt, s, u, cm) → tOk2 (g 1).toNat (h, tt, s, u, cm) → Fr (sA 76) m0 M → T = k + lonN (g (22 + l)) (stopV g l) num n i (h, tt, s, u, cm) → Em Γ (d + 3) MX7_toldBy (fun r m' => r = (T : Int) ∧ Fr (sA 76) m0 m') 26 [rv 74, iv s0, rv c, iv l, iv k, iv i] [] M := by
  have hF12 := hI.1
  have hP8 := hI.2.2.1
  have hL3 := hI.2.1
  obtain ⟨taK, tar, taK2, taN⟩ := traK c hc
  intro n
  induction n with
  | zero =>
    intro k i M h tt s u cm hk hi hC hok hF hT
    have cs : M c 0 = ((2 * N : Nat) : Int) := by rw [hF.rowA (by omega)]; exact h0
    refine Ev.iload (q := 28) dX7_toldBy_26 rfl rfl ?_
    refine Ev.aload_n (q := 29) dX7_toldBy_28 rfl rfl ?_
    refine gI (q := 32) dX7_toldBy_29 gfX7_65 taK rfl rfl ?_
    rw [cs]
    refine Ev.icmp_ge (tgt := 95) (q := 35) dX7_toldBy_32 (by decide) rfl (fun h1 => ?_) (fun h1 => ?_)
    · skip
      refine Ev.iload (q := 97) dX7_toldBy_95 rfl rfl ?_
      refine rI dX7_toldBy_97 rfl ?_
      exact ⟨by rw [hT]; show (k : Int) = ((k + 0 : Nat) : Int); omega, hF⟩
    · skip
      omega
  | succ n ih =>
    intro k i M h tt s u cm hk hi hC hok hF hT
    have cs : M c 0 = ((2 * N : Nat) : Int) := by rw [hF.rowA (by omega)]; exact h0
    refine Ev.iload (q := 28) dX7_toldBy_26 rfl rfl ?_
    refine Ev.aload_n (q := 29) dX7_toldBy_28 rfl rfl ?_
    refine gI (q := 32) dX7_toldBy_29 gfX7_65 taK rfl rfl ?_
    rw [cs]
    refine Ev.icmp_ge (tgt := 95) (q := 35) dX7_toldBy_32 (by decide) rfl (fun h1 => ?_) (fun h1 => ?_)
    · skip
      omega
    · skip
      refine Ev.aload_n (q := 36) dX7_toldBy_35 rfl rfl ?_
      refine gR (q := 39) dX7_toldBy_36 gfX7_35 k74 r74_2 rfl rfl ?_
      refine cV0i (q := 42) (d' := d + 2) dX7_toldBy_39 mlX7_81 moX10_rideOn mvX10_rideOn k76 rfl rfl rfl (Nat.le_refl _) rfl rfl rfl (p_X10_rideOn g 76 l h tt s u cm (by decide) hI hl (hH.si hF.toSi) hC hok) (fun r2 m2 e2 => ?_)
      obtain ⟨M9, rfl⟩ : ∃ M9, M9 = m2 := ⟨_, rfl⟩
      obtain ⟨eN, eS⟩ := e2
      refine Ev.if_eq (tgt := 95) (q := 45) dX7_toldBy_42 (by decide) rfl (fun h3 => ?_) (fun h3 => ?_)
      · skip
        have hg : tgo (g (22 + l)) (stopV g l) (h, tt, s, u, cm) = none := by
          cases hg : tgo (g (22 + l)) (stopV g l) (h, tt, s, u, cm) with
          | none => rfl
          | some t' => have := (eS t' hg).1; omega
        obtain ⟨-, rfl⟩ := eN hg
        refine Ev.iload (q := 97) dX7_toldBy_95 rfl rfl ?_
        refine rI dX7_toldBy_97 rfl ?_
        exact ⟨by rw [hT, lonN_none hg]; rfl, hF⟩
      · skip
        obtain ⟨t', hg⟩ : ∃ t', tgo (g (22 + l)) (stopV g l) (h, tt, s, u, cm) = some t' := by
          cases hg : tgo (g (22 + l)) (stopV g l) (h, tt, s, u, cm) with
          | none => have := (eN hg).1; omega
          | some t' => exact ⟨t', rfl⟩
        obtain ⟨-, hT', hF'⟩ := eS t' hg
        have hok' := tgo_ok2 hok hg
        have hF9 : Fr (sA 76) m0 M9 := hF.tr hF'
        have cs9 : M9 c 0 = ((2 * N : Nat) : Int) := by rw [hF9.rowA (by omega)]; exact h0
        have nu9 : ∀ i, i < 2 * N → M9 (c + 1) i = num i := fun i hi => by rw [hF9.rowA (by omega)]; exact hnum i hi
        rw [lonN_some hg] at hT
        refine Ev.aload_n (q := 46) dX7_toldBy_45 rfl rfl ?_
        refine Ev.iload (q := 48) dX7_toldBy_46 rfl rfl ?_
        refine cV1j (q := 51) (d' := d + 2) dX7_toldBy_48 mlX7_85 moX9_get mvX9_get taK rfl rfl rfl (Nat.le_refl _) rfl rfl rfl (p_X9_get c i hc (by omega) (by omega)) (fun r4 m4 e4 => ?_)
        obtain ⟨rfl, e4⟩ := e4
        obtain rfl := e4.symm
        rw [nu9 i (by omega)]
        refine Ev.aload_n (q := 52) dX7_toldBy_51 rfl rfl ?_
        refine gR (q := 55) dX7_toldBy_52 gfX7_35 k74 r74_2 rfl rfl ?_
        refine gI (q := 58) dX7_toldBy_55 gfX7_89 k76 rfl rfl ?_
        rw [hT'.1.2.1]
        refine Ev.i2l (q := 59) dX7_toldBy_58 rfl ?_
        refine Em.ok (fun hL9 hS9 hM9 => ?_)
        have q1 := okV_j (okA_0 hS9)
        have q2 := okV_j (okA_1 hS9)
        refine Ev.lcmp (q := 60) dX7_toldBy_59 rfl ?_
        refine Ev.if_ne (tgt := 95) (q := 63) dX7_toldBy_60 (by decide) rfl (fun h5 => ?_) (fun h5 => ?_)
        · skip
          have hne : ¬ num i = (t'.1 : Int) := fun z => h5 ((lcmp_z q2 q1).mpr z)
          refine Ev.iload (q := 97) dX7_toldBy_95 rfl rfl ?_
          refine rI dX7_toldBy_97 rfl ?_
          exact ⟨by rw [hT, if_neg (fun z => hne z.1)]; rfl, hF9⟩
        · skip
          have heq : num i = (t'.1 : Int) := (lcmp_z q2 q1).mp (by omega)
          refine Ev.aload_n (q := 64) dX7_toldBy_63 rfl rfl ?_
          refine Ev.iload (q := 66) dX7_toldBy_64 rfl rfl ?_
          refine Ev.iconst (q := 67) dX7_toldBy_66 ki_1 rfl ?_
          refine Ev.iadd (q := 68) dX7_toldBy_67 rfl ?_
          rw [w32_of (z := (i : Int) + 1) (by omega) (by omega), show (i : Int) + 1 = ((i + 1 : Nat) : Int) by omega]
          refine cV1j (q := 71) (d' := d + 2) dX7_toldBy_68 mlX7_85 moX9_get mvX9_get taK rfl rfl rfl (Nat.le_refl _) rfl rfl rfl (p_X9_get c (i + 1) hc (by omega) (by omega)) (fun r6 m6 e6 => ?_)
          obtain ⟨rfl, e6⟩ := e6
          obtain rfl := e6.symm
          rw [nu9 (i + 1) (by omega)]
          refine Ev.aload_n (q := 72) dX7_toldBy_71 rfl rfl ?_
          refine gR (q := 75) dX7_toldBy_72 gfX7_35 k74 r74_2 rfl rfl ?_
          refine gI (q := 78) dX7_toldBy_75 gfX7_92 k76 rfl rfl ?_
          rw [hT'.2]
          refine Ev.i2l (q := 79) dX7_toldBy_78 rfl ?_
          refine Em.ok (fun hL9 hS9 hM9 => ?_)
          have q3 := okV_j (okA_0 hS9)
          have q4 := okV_j (okA_1 hS9)
          refine Ev.lcmp (q := 80) dX7_toldBy_79 rfl ?_
          refine Ev.if_eq (tgt := 86) (q := 83) dX7_toldBy_80 (by decide) rfl (fun h7 => ?_) (fun h7 => ?_)
          · skip
            have heq2 : num (i + 1) = t'.2.2.2.2 := (lcmp_z q4 q3).mp h7
            refine iinc_4 (q := 89) dX7_toldBy_86 rfl rfl rfl ?_
            refine iinc_5 (q := 92) dX7_toldBy_89 rfl rfl rfl ?_
            refine Ev.goto (q := 26) dX7_toldBy_92 (by decide) ?_
            rw [w32_of (by omega) (by omega), w32_of (by omega) (by omega)]
            exact ih (k + 1) (i + 2) M9 t'.1 t'.2.1 t'.2.2.1 t'.2.2.2.1 t'.2.2.2.2 (by omega) (by omega) hT'.1 hok' hF9 (by rw [hT, if_pos ⟨heq, heq2⟩]; show _ = k + 1 + lonN (g (22 + l)) (stopV g l) num n (i + 2) t'; omega)
          · skip
            have hne : ¬ num (i + 1) = t'.2.2.2.2 := fun z => h7 ((lcmp_z q4 q3).mpr z)
            refine Ev.goto (q := 95) dX7_toldBy_83 (by decide) ?_
            refine Ev.iload (q := 97) dX7_toldBy_95 rfl rfl ?_
            refine rI dX7_toldBy_97 rfl ?_
            exact ⟨by rw [hT, if_neg (fun z => hne z.2)]; rfl, hF9⟩
set_option maxRecDepth 4000 in
theorem p_X7_toldBy {Γ : Gm} {d : Nat} {m : Mem} (g num : Row) (c l s0 N : Nat) (hc : c ∈ traC) (hI : HI g) (hl : (l : Int) < g 2) (hH : HouR g m 33) (hN : NowR g m 44) (hN8 : N ≤ 8) (h0 : m c 0 = ((2 * N : Nat) : Int)) (hnum : ∀ i, i < 2 * N → m (c + 1) i = num i) (hs : litOk g l s0) : Ci Γ (d + 3) MX7_toldBy [rv 74, iv s0, rv c, iv l] m (fun r m' => r = (lonV g num l N s0 : Int) ∧ Fr (sA 76) m m') := by
  refine Ci.of moX7_toldBy rfl rfl (fun hA hM => ?_)
  show Em Γ (d + 3) MX7_toldBy _ 0 [rv 74, iv s0, rv c, iv l, uv, uv] [] m
  have hF12 := hI.1
  have hP8 := hI.2.2.1
  have hL3 := hI.2.1
  obtain ⟨taK, tar, taK2, taN⟩ := traK c hc
  refine Ev.aload_n (q := 1) dX7_toldBy_0 rfl rfl ?_
  refine gR (q := 4) dX7_toldBy_1 gfX7_35 k74 r74_2 rfl rfl ?_
  refine Ev.aload_n (q := 5) dX7_toldBy_4 rfl rfl ?_
  refine gR (q := 8) dX7_toldBy_5 gfX7_26 k74 r74_1 rfl rfl ?_
  refine Ev.iload_n (q := 9) dX7_toldBy_8 rfl rfl ?_
  refine cV2v (q := 12) (d' := d + 2) dX7_toldBy_9 mlX7_74 moX10_begin mvX10_begin k76 rfl rfl rfl (Nat.le_refl _) rfl rfl rfl (p_X10_begin g 76 44 l (by decide) (by decide) hI hl hN) (fun r1 m1 e1 => ?_)
  obtain ⟨M1, rfl⟩ : ∃ M1, M1 = m1 := ⟨_, rfl⟩
  obtain ⟨hT1, hF1⟩ := e1
  refine Ev.aload_n (q := 13) dX7_toldBy_12 rfl rfl ?_
  refine gR (q := 16) dX7_toldBy_13 gfX7_35 k74 r74_2 rfl rfl ?_
  refine Ev.iload_n (q := 17) dX7_toldBy_16 rfl rfl ?_
  refine pI (q := 20) dX7_toldBy_17 gfX7_78 k76 rfl rfl ?_
  refine Ev.iconst (q := 21) dX7_toldBy_20 ki_0 rfl ?_
  refine istore_4 (q := 23) dX7_toldBy_21 rfl rfl rfl ?_
  refine Ev.iconst (q := 24) dX7_toldBy_23 ki_0 rfl ?_
  refine istore_5 (q := 26) dX7_toldBy_24 rfl rfl rfl ?_
  refine l_toldBy (m0 := m) g num c l s0 N _ hc hI hl hH hN hN8 h0 hnum N 0 0 _ _ _ _ _ _ (by omega) (by omega) (hT1.1.up4 s0) (hI.liftOk hl hs.1 hs.2) (hF1.up rfl) ?_
  rw [Nat.zero_add]
  unfold lonV
  exact lonN_came _ _ _ _ _ _ _
def GI (g num : Row) (l N : Nat) (m : Mem) (s : Nat) : Prop := m 74 3 = (cntF g num l N s : Int) ∧ m 74 4 = (maxF g num l N s : Int) ∧ ∀ f, f < 12 → m 75 f = (litF g num l N f s : Int)
set_option maxRecDepth 4000 in
theorem l_gather {Γ : Gm} {d : Nat} {m0 : Mem} (g num : Row) (c l N : Nat) (hc : c ∈ traC) (hI : HI g) (hl : (l : Int) < g 2) (hH : HouR g m0 33) (hN : NowR g m0 44) (hN8 : N ≤ 8) (h0 : m0 c 0 = ((2 * N : Nat) : Int)) (hnum : ∀ i, i < 2 * N → m0 (c + 1) i = num i) : ∀ (n s : Nat) (M : Mem) (v4 : Vl), s + n = 2 ^ (g 1).toNat → GI g num l N M s → Fr sSi m0 M → Em Γ (d + 4) MX7_gather (fun r m' => GI g num l N m' (2 ^ (g 1).toNat) ∧ Fr sSi m0 m') 20 [rv 74, rv c, iv l, iv s, v4] [] M := by
  have hF12 := hI.1
  have hP8 := hI.2.2.1
  have hL3 := hI.2.1
  obtain ⟨taK, tar, taK2, taN⟩ := traK c hc
  have hp2 := two_F hI.F12
  have ql := (hI.lift hl).1
  intro n
  induction n with
  | zero =>
    intro s M v4 hs hG hF
    have e33 : M 33 0 = g 1 := (hH.si hF).n0.1
    refine Ev.iload_n (q := 21) dX7_gather_20 rfl rfl ?_
    refine Ev.iconst (q := 22) dX7_gather_21 ki_1 rfl ?_
    refine Ev.aload_n (q := 23) dX7_gather_22 rfl rfl ?_
    refine gR (q := 26) dX7_gather_23 gfX7_22 k74 r74_0 rfl rfl ?_
    refine gI (q := 29) dX7_gather_26 gfX7_45 k33 rfl rfl ?_
    rw [e33, show g 1 = (((g 1).toNat : Nat) : Int) by omega]
    refine Ev.ishl (q := 30) dX7_gather_29 rfl ?_
    rw [ishl_1 _ (by omega)]
    refine Ev.icmp_ge (tgt := 96) (q := 33) dX7_gather_30 (by decide) rfl (fun h1 => ?_) (fun h1 => ?_)
    · skip
      refine rV dX7_gather_96 rfl ?_
      obtain rfl : s = 2 ^ (g 1).toNat := by omega
      exact ⟨hG, hF⟩
    · skip
      omega
  | succ n ih =>
    intro s M v4 hs hG hF
    have e33 : M 33 0 = g 1 := (hH.si hF).n0.1
    have e45 : M 45 l = ((g (60 + l)).toNat : Int) := E45 hI hl (hN.si hF)
    have cs : M c 0 = ((2 * N : Nat) : Int) := by rw [hF.row c (fun _ => sSi_f (by omega))]; exact h0
    have nu : ∀ i, i < 2 * N → M (c + 1) i = num i := fun i hi => by rw [hF.row (c + 1) (fun _ => sSi_f (by omega))]; exact hnum i hi
    have hmx := maxF_le g num l N s
    refine Ev.iload_n (q := 21) dX7_gather_20 rfl rfl ?_
    refine Ev.iconst (q := 22) dX7_gather_21 ki_1 rfl ?_
    refine Ev.aload_n (q := 23) dX7_gather_22 rfl rfl ?_
    refine gR (q := 26) dX7_gather_23 gfX7_22 k74 r74_0 rfl rfl ?_
    refine gI (q := 29) dX7_gather_26 gfX7_45 k33 rfl rfl ?_
    rw [e33, show g 1 = (((g 1).toNat : Nat) : Int) by omega]
    refine Ev.ishl (q := 30) dX7_gather_29 rfl ?_
    rw [ishl_1 _ (by omega)]
    refine Ev.icmp_ge (tgt := 96) (q := 33) dX7_gather_30 (by decide) rfl (fun h1 => ?_) (fun h1 => ?_)
    · skip
      omega
    · skip
      refine Ev.iload_n (q := 34) dX7_gather_33 rfl rfl ?_
      refine Ev.iconst (q := 35) dX7_gather_34 ki_1 rfl ?_
      refine Ev.aload_n (q := 36) dX7_gather_35 rfl rfl ?_
      refine gR (q := 39) dX7_gather_36 gfX7_26 k74 r74_1 rfl rfl ?_
      refine gR (q := 42) dX7_gather_39 gfX7_50 k44 r44_0 rfl rfl ?_
      refine Ev.iload_n (q := 43) dX7_gather_42 rfl rfl ?_
      refine aI (q := 44) (k := l) dX7_gather_43 k45 (by first | rfl | omega | (simp (disch := omega) only [w32_of]; omega)) (by omega) rfl ?_
      rw [e45]
      refine Ev.ishl (q := 45) dX7_gather_44 rfl ?_
      refine Ev.iand (q := 46) dX7_gather_45 rfl ?_
      refine Ev.if_eq (tgt := 52) (q := 49) dX7_gather_46 (by decide) rfl (fun h2 => ?_) (fun h2 => ?_)
      · skip
        have hb : s.testBit (g (60 + l)).toNat = false := (bit_and (by omega) (by omega)).mp h2
        have hlk : litOk g l s := ⟨by omega, hb⟩
        refine Ev.aload_n (q := 53) dX7_gather_52 rfl rfl ?_
        refine Ev.iload_n (q := 54) dX7_gather_53 rfl rfl ?_
        refine Ev.aload_n (q := 55) dX7_gather_54 rfl rfl ?_
        refine Ev.iload_n (q := 56) dX7_gather_55 rfl rfl ?_
        refine cV3i (q := 59) (d' := d + 3) dX7_gather_56 mlX7_55 moX7_toldBy mvX7_toldBy k74 rfl rfl rfl (Nat.le_refl _) rfl rfl rfl (p_X7_toldBy g num c l s N hc hI hl (hH.si hF) (hN.si hF) hN8 cs nu hlk) (fun r3 m3 e3 => ?_)
        obtain ⟨M9, rfl⟩ : ∃ M9, M9 = m3 := ⟨_, rfl⟩
        obtain ⟨y1, f9⟩ := e3
        subst y1
        have hlo := okS_lon (g := g) (nm := num) (l := l) (s := s) (Nat.le_refl N)
        have hle := lonN_le (g (22 + l)) (stopV g l) num N 0 (withLit (liftT g l) s)
        have hle2 : lonV g num l N s ≤ N := hle
        have k3 : M9 74 3 = (cntF g num l N s : Int) := by rw [f9 74 3 rfl]; exact hG.1
        have k4 : M9 74 4 = (maxF g num l N s : Int) := by rw [f9 74 4 rfl]; exact hG.2.1
        have k5 : ∀ f, f < 12 → M9 75 f = (litF g num l N f s : Int) := fun f hf => by rw [f9 75 f rfl]; exact hG.2.2 f hf
        have hF9 : Fr sSi m0 M9 := hF.tr f9.toSi
        have cs9 : M9 c 0 = ((2 * N : Nat) : Int) := by rw [f9.rowA (by omega)]; exact cs
        refine istore_4 (q := 61) dX7_gather_59 rfl rfl rfl ?_
        refine Ev.aload_n (q := 62) dX7_gather_61 rfl rfl ?_
        refine Ev.aload_n (q := 63) dX7_gather_62 rfl rfl ?_
        refine gI (q := 66) dX7_gather_63 gfX7_15 k74 rfl rfl ?_
        rw [k4]
        refine Ev.iload (q := 68) dX7_gather_66 rfl rfl ?_
        refine cS2i (q := 71) (d' := d + 3) dX7_gather_68 mlX7_59 moJ9_max_7cf53 msJ9_max_7cf53 rfl rfl (Nat.le_refl _) rfl rfl rfl (p_J9_max_7cf53 _ _) (fun r4 m4 e4 => ?_)
        obtain ⟨rfl, e4⟩ := e4
        obtain rfl := e4.symm
        refine pI (q := 74) dX7_gather_71 gfX7_15 k74 rfl rfl ?_
        refine Ev.iload (q := 76) dX7_gather_74 rfl rfl ?_
        refine Ev.aload_n (q := 77) dX7_gather_76 rfl rfl ?_
        refine gI (q := 80) dX7_gather_77 gfX7_65 taK rfl rfl ?_
        rw [up_o _ _ (by omega), cs9]
        refine Ev.iconst (q := 81) dX7_gather_80 ki_2 rfl ?_
        refine Ev.idiv (q := 82) dX7_gather_81 (by decide) rfl ?_
        rw [show (2 : Int) = ((2 : Nat) : Int) from rfl, idiv_n (by omega) (by decide) (by decide), show 2 * N / 2 = N by omega]
        refine Ev.icmp_ne (tgt := 90) (q := 85) dX7_gather_82 (by decide) rfl (fun h5 => ?_) (fun h5 => ?_)
        · skip
          have hno : ¬ okS g num l N s = true := fun z => by have := (hlo.mp z).2; omega
          refine iinc_3 (q := 93) dX7_gather_90 rfl rfl rfl ?_
          refine Ev.goto (q := 20) dX7_gather_93 (by decide) ?_
          rw [w32_of (z := (s : Int) + 1) (by omega) (by omega)]
          refine ih (s + 1) _ _ (by omega) ⟨?_, ?_, fun f hf => ?_⟩ (hF9.up rfl)
          · rw [up_k _ _ (by decide), k3]; show _ = ((cntF g num l N s + (if okS g num l N s = true then 1 else 0) : Nat) : Int); rw [if_neg hno]; omega
          · rw [up_eq, maxF_i hb]
          · rw [up_o _ _ (by decide), k5 f hf]; show _ = ((litF g num l N f s + (if okS g num l N s = true ∧ s.testBit f = true then 1 else 0) : Nat) : Int); rw [if_neg (fun q => hno q.1)]; omega
        · skip
          have hyes : okS g num l N s = true := hlo.mpr ⟨hb, by omega⟩
          refine Ev.aload_n (q := 86) dX7_gather_85 rfl rfl ?_
          refine Ev.iload_n (q := 87) dX7_gather_86 rfl rfl ?_
          refine cV1v (q := 90) (d' := d + 3) dX7_gather_87 mlX7_70 moX7_countSet mvX7_countSet k74 rfl rfl rfl (Nat.le_refl _) rfl rfl rfl (p_X7_countSet s (by omega) (fun f hf => by rw [up_o _ _ (by decide), k5 f hf]; have := litF_le g num l N f s; omega)) (fun r6 m6 e6 => ?_)
          obtain ⟨M8, rfl⟩ : ∃ M8, M8 = m6 := ⟨_, rfl⟩
          obtain ⟨y1, y2, f8⟩ := e6
          rw [up_k _ _ (by decide), k3] at y1
          have hcl := cntF_le g num l N s
          refine iinc_3 (q := 93) dX7_gather_90 rfl rfl rfl ?_
          refine Ev.goto (q := 20) dX7_gather_93 (by decide) ?_
          rw [w32_of (z := (s : Int) + 1) (by omega) (by omega)]
          refine ih (s + 1) _ _ (by omega) ⟨?_, ?_, fun f hf => ?_⟩ ((hF9.up rfl).tr (f8.mono (fun a k q => sCs_S q)))
          · rw [y1, w32_of (by omega) (by omega)]; show _ = ((cntF g num l N s + (if okS g num l N s = true then 1 else 0) : Nat) : Int); rw [if_pos hyes]; omega
          · rw [f8 74 4 rfl, up_eq, maxF_i hb]
          · rw [y2 f hf, up_o _ _ (by decide), k5 f hf]; show _ = ((litF g num l N f s + (if okS g num l N s = true ∧ s.testBit f = true then 1 else 0) : Nat) : Int)
            by_cases hbf : s.testBit f = true
            · rw [if_pos hbf, if_pos ⟨hyes, hbf⟩]; omega
            · rw [if_neg hbf, if_neg (fun z => hbf z.2)]; omega
      · skip
        have hb : s.testBit (g (60 + l)).toNat = true := by
          cases hq : s.testBit (g (60 + l)).toNat with
          | true => rfl
          | false => exact absurd ((bit_and (by omega) (by omega)).mpr hq) h2
        refine Ev.goto (q := 90) dX7_gather_49 (by decide) ?_
        refine iinc_3 (q := 93) dX7_gather_90 rfl rfl rfl ?_
        refine Ev.goto (q := 20) dX7_gather_93 (by decide) ?_
        rw [w32_of (z := (s : Int) + 1) (by omega) (by omega)]
        have hno : ¬ okS g num l N s = true := fun z => by have := ((okS_lon (Nat.le_refl N)).mp z).1; rw [hb] at this; cases this
        refine ih (s + 1) _ _ (by omega) ⟨?_, ?_, fun f hf => ?_⟩ hF
        · rw [hG.1]; show _ = ((cntF g num l N s + (if okS g num l N s = true then 1 else 0) : Nat) : Int); rw [if_neg hno]; omega
        · rw [hG.2.1]; conv => rhs; unfold maxF
          rw [if_pos hb]
        · rw [hG.2.2 f hf]; show _ = ((litF g num l N f s + (if okS g num l N s = true ∧ s.testBit f = true then 1 else 0) : Nat) : Int); rw [if_neg (fun q => hno q.1)]; omega
set_option maxRecDepth 4000 in
theorem p_X7_gather {Γ : Gm} {d : Nat} {m : Mem} (g num : Row) (c l N : Nat) (hc : c ∈ traC) (hI : HI g) (hl : (l : Int) < g 2) (hH : HouR g m 33) (hN : NowR g m 44) (hN8 : N ≤ 8) (h0 : m c 0 = ((2 * N : Nat) : Int)) (hnum : ∀ i, i < 2 * N → m (c + 1) i = num i): Ci Γ (d + 4) MX7_gather [rv 74, rv c, iv l] m (fun r m' => GI g num l N m' (2 ^ (g 1).toNat) ∧ Fr sSi m m') := by
  refine Ci.of moX7_gather rfl rfl (fun hA hM => ?_)
  show Em Γ (d + 4) MX7_gather _ 0 [rv 74, rv c, iv l, uv, uv] [] m
  have hF12 := hI.1
  have hP8 := hI.2.2.1
  have hL3 := hI.2.1
  obtain ⟨taK, tar, taK2, taN⟩ := traK c hc
  refine Ev.aload_n (q := 1) dX7_gather_0 rfl rfl ?_
  refine Ev.iconst (q := 2) dX7_gather_1 ki_0 rfl ?_
  refine pI (q := 5) dX7_gather_2 gfX7_9 k74 rfl rfl ?_
  refine Ev.aload_n (q := 6) dX7_gather_5 rfl rfl ?_
  refine Ev.iconst (q := 7) dX7_gather_6 ki_0 rfl ?_
  refine pI (q := 10) dX7_gather_7 gfX7_15 k74 rfl rfl ?_
  refine Ev.aload_n (q := 11) dX7_gather_10 rfl rfl ?_
  refine gR (q := 14) dX7_gather_11 gfX7_18 k74 r74_5 rfl rfl ?_
  refine Ev.iconst (q := 15) dX7_gather_14 ki_0 rfl ?_
  refine cS2v (q := 18) (d' := d + 3) dX7_gather_15 mlX7_39 moJ7_fill_53178 msJ7_fill_53178 rfl rfl (Nat.le_refl _) rfl rfl rfl (p_J7_fill_53178 75 12 0 k75 (by decide)) (fun r1 m1 e1 => ?_)
  obtain ⟨M9, rfl⟩ : ∃ M9, M9 = m1 := ⟨_, rfl⟩
  obtain ⟨hz, f9⟩ := e1
  refine Ev.iconst (q := 19) dX7_gather_18 ki_0 rfl ?_
  refine istore_n_3 (q := 20) dX7_gather_19 rfl rfl rfl ?_
  exact l_gather (m0 := m) g num c l N hc hI hl hH hN hN8 h0 hnum (2 ^ (g 1).toNat) 0 M9 uv (by omega) ⟨by rw [f9 74 3 rfl, up_k _ _ (by decide), up_eq]; rfl, by rw [f9 74 4 rfl, up_eq]; rfl, fun f hf => by rw [hz f hf]; rfl⟩ ((((Fr.rf sSi m).up rfl).up rfl).tr f9.toSi5)
set_option maxRecDepth 4000 in
theorem l_inAll {Γ : Gm} {d : Nat} {m : Mem} (g num : Row) (l N : Nat) (hG : GI g num l N m (2 ^ (g 1).toNat)) : ∀ (n f : Nat), f + n = 12 → Em Γ (d + 0) MX7_inAll (fun r m' => r = (setN (surQ g num l N) 12 : Int) ∧ m' = m) 4 [rv 74, iv (setN (surQ g num l N) f : Nat), iv f] [] m := by
  intro n
  induction n with
  | zero =>
    intro f hf
    refine Ev.iload_n (q := 5) dX7_inAll_4 rfl rfl ?_
    refine Ev.bipush (q := 7) dX7_inAll_5 kb_12 rfl ?_
    refine Ev.icmp_ge (tgt := 42) (q := 10) dX7_inAll_7 (by decide) rfl (fun h1 => ?_) (fun h1 => ?_)
    · skip
      refine Ev.iload_n (q := 43) dX7_inAll_42 rfl rfl ?_
      refine rI dX7_inAll_43 rfl ?_
      obtain rfl : f = 12 := by omega
      exact ⟨rfl, rfl⟩
    · skip
      omega
  | succ n ih =>
    intro f hf
    have h12 : setN (surQ g num l N) f < 2 ^ 12 := Nat.lt_of_lt_of_le (setN_lt (surQ g num l N) f) (Nat.pow_le_pow_right (by decide) (by omega))
    refine Ev.iload_n (q := 5) dX7_inAll_4 rfl rfl ?_
    refine Ev.bipush (q := 7) dX7_inAll_5 kb_12 rfl ?_
    refine Ev.icmp_ge (tgt := 42) (q := 10) dX7_inAll_7 (by decide) rfl (fun h1 => ?_) (fun h1 => ?_)
    · skip
      omega
    · skip
      refine Ev.aload_n (q := 11) dX7_inAll_10 rfl rfl ?_
      refine gI (q := 14) dX7_inAll_11 gfX7_9 k74 rfl rfl ?_
      rw [hG.1]
      refine Ev.if_le (tgt := 36) (q := 17) dX7_inAll_14 (by decide) rfl (fun h2 => ?_) (fun h2 => ?_)
      · skip
        refine iinc_2 (q := 39) dX7_inAll_36 rfl rfl rfl ?_
        refine Ev.goto (q := 4) dX7_inAll_39 (by decide) ?_
        have hq : ¬ surQ g num l N f = true := by unfold surQ; intro z; have z := of_decide_eq_true z; omega
        rw [w32_of (by omega) (by omega)]
        have hk9 := ih (f + 1) (by omega)
        rw [show setN (surQ g num l N) (f + 1) = setN (surQ g num l N) f by conv => lhs; unfold setN; rw [if_neg hq]] at hk9
        exact hk9
      · skip
        refine Ev.aload_n (q := 18) dX7_inAll_17 rfl rfl ?_
        refine gR (q := 21) dX7_inAll_18 gfX7_18 k74 r74_5 rfl rfl ?_
        refine Ev.iload_n (q := 22) dX7_inAll_21 rfl rfl ?_
        refine aI (q := 23) (k := f) dX7_inAll_22 k75 (by first | rfl | omega | (simp (disch := omega) only [w32_of]; omega)) (by omega) rfl ?_
        rw [hG.2.2 f (by omega)]
        refine Ev.aload_n (q := 24) dX7_inAll_23 rfl rfl ?_
        refine gI (q := 27) dX7_inAll_24 gfX7_9 k74 rfl rfl ?_
        rw [hG.1]
        refine Ev.icmp_ne (tgt := 36) (q := 30) dX7_inAll_27 (by decide) rfl (fun h3 => ?_) (fun h3 => ?_)
        · skip
          refine iinc_2 (q := 39) dX7_inAll_36 rfl rfl rfl ?_
          refine Ev.goto (q := 4) dX7_inAll_39 (by decide) ?_
          have hq : ¬ surQ g num l N f = true := by unfold surQ; intro z; have z := of_decide_eq_true z; omega
          rw [w32_of (by omega) (by omega)]
          have hk9 := ih (f + 1) (by omega)
          rw [show setN (surQ g num l N) (f + 1) = setN (surQ g num l N) f by conv => lhs; unfold setN; rw [if_neg hq]] at hk9
          exact hk9
        · skip
          refine Ev.iload_n (q := 31) dX7_inAll_30 rfl rfl ?_
          refine Ev.iconst (q := 32) dX7_inAll_31 ki_1 rfl ?_
          refine Ev.iload_n (q := 33) dX7_inAll_32 rfl rfl ?_
          refine Ev.ishl (q := 34) dX7_inAll_33 rfl ?_
          refine Ev.ior (q := 35) dX7_inAll_34 rfl ?_
          refine istore_n_1 (q := 36) dX7_inAll_35 rfl rfl rfl ?_
          refine iinc_2 (q := 39) dX7_inAll_36 rfl rfl rfl ?_
          refine Ev.goto (q := 4) dX7_inAll_39 (by decide) ?_
          have hq : surQ g num l N f = true := by unfold surQ; exact decide_eq_true ⟨by omega, by omega⟩
          rw [ishl_1 f (by omega), ior_n (k := 12) h12 (two_lt (by omega)) (by decide), w32_of (by omega) (by omega)]
          have hk9 := ih (f + 1) (by omega)
          rw [show setN (surQ g num l N) (f + 1) = setN (surQ g num l N) f ||| 2 ^ f by conv => lhs; unfold setN; rw [if_pos hq]] at hk9
          exact hk9
set_option maxRecDepth 4000 in
theorem p_X7_inAll {Γ : Gm} {d : Nat} {m : Mem} (g num : Row) (l N : Nat) (hG : GI g num l N m (2 ^ (g 1).toNat)) : Ci Γ (d + 0) MX7_inAll [rv 74] m (fun r m' => r = (setN (surQ g num l N) 12 : Int) ∧ m' = m) := by
  refine Ci.of moX7_inAll rfl rfl (fun hA hM => ?_)
  show Em Γ (d + 0) MX7_inAll _ 0 [rv 74, uv, uv] [] m
  refine Ev.iconst (q := 1) dX7_inAll_0 ki_0 rfl ?_
  refine istore_n_1 (q := 2) dX7_inAll_1 rfl rfl rfl ?_
  refine Ev.iconst (q := 3) dX7_inAll_2 ki_0 rfl ?_
  refine istore_n_2 (q := 4) dX7_inAll_3 rfl rfl rfl ?_
  exact l_inAll g num l N hG 12 0 (by omega)
theorem lkN_skip {cnt : Nat} {lit : Nat → Nat} {own n f : Nat} {b ms : Int} (h : f = own ∨ (if lit f < cnt - lit f then (lit f : Int) else ((cnt - lit f : Nat) : Int)) ≤ ms) : lkN cnt lit own (n + 1) f b ms = lkN cnt lit own n (f + 1) b ms := by conv => lhs; unfold lkN; rw [if_pos h]
theorem lkN_take {cnt : Nat} {lit : Nat → Nat} {own n f : Nat} {b ms : Int} (h : ¬ (f = own ∨ (if lit f < cnt - lit f then (lit f : Int) else ((cnt - lit f : Nat) : Int)) ≤ ms)) : lkN cnt lit own (n + 1) f b ms = lkN cnt lit own n (f + 1) f (if lit f < cnt - lit f then (lit f : Int) else ((cnt - lit f : Nat) : Int)) := by conv => lhs; unfold lkN; rw [if_neg h]
theorem min_lk {a c : Nat} (h : a ≤ c) : (if (a : Int) > w32 ((c : Int) - a) then w32 ((c : Int) - a) else (a : Int)) = w32 ((c : Int) - a) ∨ True := Or.inr trivial
set_option maxRecDepth 4000 in
theorem l_mostEven {Γ : Gm} {d : Nat} {m : Mem} (g num : Row) (l N : Nat) (T : Int) (hI : HI g) (hl : (l : Int) < g 2) (hH : HouR g m 33) (hN : NowR g m 44) (hG : GI g num l N m (2 ^ (g 1).toNat)) (h0 : 0 < (cntF g num l N (2 ^ (g 1).toNat))) : ∀ (n f : Nat) (b ms : Int) (v5 : Vl), f + n = (g 1).toNat → T = lkN (cntF g num l N (2 ^ (g 1).toNat)) (fun f => litF g num l N f (2 ^ (g 1).toNat)) (g (60 + l)).toNat n f b ms → Em Γ (d + 1) MX7_mostEven (fun r m' => r = T ∧ m' = m) 7 [rv 74, iv l, iv b, iv ms, iv f, v5] [] m := by
  have hF12 := hI.1
  have hP8 := hI.2.2.1
  have hL3 := hI.2.1
  have e33 : m 33 0 = g 1 := hH.n0.1
  have e45 : m 45 l = ((g (60 + l)).toNat : Int) := E45 hI hl hN
  have hcb := cntF_le g num l N (2 ^ (g 1).toNat)
  have hp2 := two_F hI.F12
  intro n
  induction n with
  | zero =>
    intro f b ms v5 hf hT
    refine Ev.iload (q := 9) dX7_mostEven_7 rfl rfl ?_
    refine Ev.aload_n (q := 10) dX7_mostEven_9 rfl rfl ?_
    refine gR (q := 13) dX7_mostEven_10 gfX7_22 k74 r74_0 rfl rfl ?_
    refine gI (q := 16) dX7_mostEven_13 gfX7_45 k33 rfl rfl ?_
    rw [e33]
    refine Ev.icmp_ge (tgt := 82) (q := 19) dX7_mostEven_16 (by decide) rfl (fun h1 => ?_) (fun h1 => ?_)
    · skip
      refine Ev.iload_n (q := 83) dX7_mostEven_82 rfl rfl ?_
      refine rI dX7_mostEven_83 rfl ?_
      exact ⟨by rw [hT]; rfl, rfl⟩
    · skip
      omega
  | succ n ih =>
    intro f b ms v5 hf hT
    have hlf := litF_cnt g num l N f (2 ^ (g 1).toNat)
    refine Ev.iload (q := 9) dX7_mostEven_7 rfl rfl ?_
    refine Ev.aload_n (q := 10) dX7_mostEven_9 rfl rfl ?_
    refine gR (q := 13) dX7_mostEven_10 gfX7_22 k74 r74_0 rfl rfl ?_
    refine gI (q := 16) dX7_mostEven_13 gfX7_45 k33 rfl rfl ?_
    rw [e33]
    refine Ev.icmp_ge (tgt := 82) (q := 19) dX7_mostEven_16 (by decide) rfl (fun h1 => ?_) (fun h1 => ?_)
    · skip
      omega
    · skip
      refine Ev.aload_n (q := 20) dX7_mostEven_19 rfl rfl ?_
      refine gI (q := 23) dX7_mostEven_20 gfX7_9 k74 rfl rfl ?_
      rw [hG.1]
      refine Ev.if_le (tgt := 82) (q := 26) dX7_mostEven_23 (by decide) rfl (fun h2 => ?_) (fun h2 => ?_)
      · skip
        omega
      · skip
        refine Ev.aload_n (q := 27) dX7_mostEven_26 rfl rfl ?_
        refine gR (q := 30) dX7_mostEven_27 gfX7_18 k74 r74_5 rfl rfl ?_
        refine Ev.iload (q := 32) dX7_mostEven_30 rfl rfl ?_
        refine aI (q := 33) (k := f) dX7_mostEven_32 k75 (by first | rfl | omega | (simp (disch := omega) only [w32_of]; omega)) (by omega) rfl ?_
        rw [hG.2.2 f (by omega)]
        refine Ev.aload_n (q := 34) dX7_mostEven_33 rfl rfl ?_
        refine gI (q := 37) dX7_mostEven_34 gfX7_9 k74 rfl rfl ?_
        rw [hG.1]
        refine Ev.aload_n (q := 38) dX7_mostEven_37 rfl rfl ?_
        refine gR (q := 41) dX7_mostEven_38 gfX7_18 k74 r74_5 rfl rfl ?_
        refine Ev.iload (q := 43) dX7_mostEven_41 rfl rfl ?_
        refine aI (q := 44) (k := f) dX7_mostEven_43 k75 (by first | rfl | omega | (simp (disch := omega) only [w32_of]; omega)) (by omega) rfl ?_
        rw [hG.2.2 f (by omega)]
        refine Ev.isub (q := 45) dX7_mostEven_44 rfl ?_
        refine cS2i (q := 48) (d' := d + 0) dX7_mostEven_45 mlX7_95 moJ9_min_7cf53 msJ9_min_7cf53 rfl rfl (Nat.le_refl _) rfl rfl rfl (p_J9_min_7cf53 _ _) (fun r3 m3 e3 => ?_)
        obtain ⟨rfl, e3⟩ := e3
        obtain rfl := e3.symm
        rw [w32_of (by omega) (by omega)]
        have hmv : (if (litF g num l N f (2 ^ (g 1).toNat) : Int) > (cntF g num l N (2 ^ (g 1).toNat) : Int) - (litF g num l N f (2 ^ (g 1).toNat) : Int) then (cntF g num l N (2 ^ (g 1).toNat) : Int) - (litF g num l N f (2 ^ (g 1).toNat) : Int) else (litF g num l N f (2 ^ (g 1).toNat) : Int)) = (if litF g num l N f (2 ^ (g 1).toNat) < cntF g num l N (2 ^ (g 1).toNat) - litF g num l N f (2 ^ (g 1).toNat) then (litF g num l N f (2 ^ (g 1).toNat) : Int) else ((cntF g num l N (2 ^ (g 1).toNat) - litF g num l N f (2 ^ (g 1).toNat) : Nat) : Int)) := by repeat (first | omega | split)
        rw [hmv]
        refine istore_5 (q := 50) dX7_mostEven_48 rfl rfl rfl ?_
        refine Ev.iload (q := 52) dX7_mostEven_50 rfl rfl ?_
        refine Ev.aload_n (q := 53) dX7_mostEven_52 rfl rfl ?_
        refine gR (q := 56) dX7_mostEven_53 gfX7_26 k74 r74_1 rfl rfl ?_
        refine gR (q := 59) dX7_mostEven_56 gfX7_50 k44 r44_0 rfl rfl ?_
        refine Ev.iload_n (q := 60) dX7_mostEven_59 rfl rfl ?_
        refine aI (q := 61) (k := l) dX7_mostEven_60 k45 (by first | rfl | omega | (simp (disch := omega) only [w32_of]; omega)) (by omega) rfl ?_
        rw [e45]
        refine Ev.icmp_eq (tgt := 76) (q := 64) dX7_mostEven_61 (by decide) rfl (fun h4 => ?_) (fun h4 => ?_)
        · skip
          refine iinc_4 (q := 79) dX7_mostEven_76 rfl rfl rfl ?_
          refine Ev.goto (q := 7) dX7_mostEven_79 (by decide) ?_
          rw [w32_of (by omega) (by omega)]
          exact ih (f + 1) b ms _ (by omega) (by rw [hT, lkN_skip (Or.inl (by omega))])
        · skip
          refine Ev.iload (q := 66) dX7_mostEven_64 rfl rfl ?_
          refine Ev.iload_n (q := 67) dX7_mostEven_66 rfl rfl ?_
          refine Ev.icmp_le (tgt := 76) (q := 70) dX7_mostEven_67 (by decide) rfl (fun h5 => ?_) (fun h5 => ?_)
          · skip
            refine iinc_4 (q := 79) dX7_mostEven_76 rfl rfl rfl ?_
            refine Ev.goto (q := 7) dX7_mostEven_79 (by decide) ?_
            rw [w32_of (by omega) (by omega)]
            exact ih (f + 1) b ms _ (by omega) (by rw [hT, lkN_skip (Or.inr (by assumption))])
          · skip
            refine Ev.iload (q := 72) dX7_mostEven_70 rfl rfl ?_
            refine istore_n_3 (q := 73) dX7_mostEven_72 rfl rfl rfl ?_
            refine Ev.iload (q := 75) dX7_mostEven_73 rfl rfl ?_
            refine istore_n_2 (q := 76) dX7_mostEven_75 rfl rfl rfl ?_
            refine iinc_4 (q := 79) dX7_mostEven_76 rfl rfl rfl ?_
            refine Ev.goto (q := 7) dX7_mostEven_79 (by decide) ?_
            rw [w32_of (by omega) (by omega)]
            exact ih (f + 1) f _ _ (by omega) (by rw [hT, lkN_take (fun z => z.elim (fun y => by omega) (by assumption))])
set_option maxRecDepth 4000 in
theorem p_X7_mostEven {Γ : Gm} {d : Nat} {m : Mem} (g num : Row) (l N : Nat) (hI : HI g) (hl : (l : Int) < g 2) (hH : HouR g m 33) (hN : NowR g m 44) (hG : GI g num l N m (2 ^ (g 1).toNat)) : Ci Γ (d + 1) MX7_mostEven [rv 74, iv l] m (fun r m' => r = (if (cntF g num l N (2 ^ (g 1).toNat)) = 0 then -1 else lkN (cntF g num l N (2 ^ (g 1).toNat)) (fun f => litF g num l N f (2 ^ (g 1).toNat)) (g (60 + l)).toNat (g 1).toNat 0 (-1) (-1)) ∧ m' = m) := by
  refine Ci.of moX7_mostEven rfl rfl (fun hA hM => ?_)
  show Em Γ (d + 1) MX7_mostEven _ 0 [rv 74, iv l, uv, uv, uv, uv] [] m
  have e33 : m 33 0 = g 1 := hH.n0.1
  have hF12 := hI.1
  refine Ev.iconst (q := 1) dX7_mostEven_0 ki_m1 rfl ?_
  refine istore_n_2 (q := 2) dX7_mostEven_1 rfl rfl rfl ?_
  refine Ev.iconst (q := 3) dX7_mostEven_2 ki_m1 rfl ?_
  refine istore_n_3 (q := 4) dX7_mostEven_3 rfl rfl rfl ?_
  refine Ev.iconst (q := 5) dX7_mostEven_4 ki_0 rfl ?_
  refine istore_4 (q := 7) dX7_mostEven_5 rfl rfl rfl ?_
  by_cases h0 : (cntF g num l N (2 ^ (g 1).toNat)) = 0
  · skip
    refine Ev.iload (q := 9) dX7_mostEven_7 rfl rfl ?_
    refine Ev.aload_n (q := 10) dX7_mostEven_9 rfl rfl ?_
    refine gR (q := 13) dX7_mostEven_10 gfX7_22 k74 r74_0 rfl rfl ?_
    refine gI (q := 16) dX7_mostEven_13 gfX7_45 k33 rfl rfl ?_
    rw [e33]
    refine Ev.icmp_ge (tgt := 82) (q := 19) dX7_mostEven_16 (by decide) rfl (fun h21 => ?_) (fun h21 => ?_)
    · skip
      omega
    · skip
      refine Ev.aload_n (q := 20) dX7_mostEven_19 rfl rfl ?_
      refine gI (q := 23) dX7_mostEven_20 gfX7_9 k74 rfl rfl ?_
      rw [hG.1]
      refine Ev.if_le (tgt := 82) (q := 26) dX7_mostEven_23 (by decide) rfl (fun h22 => ?_) (fun h22 => ?_)
      · skip
        refine Ev.iload_n (q := 83) dX7_mostEven_82 rfl rfl ?_
        refine rI dX7_mostEven_83 rfl ?_
        exact ⟨by rw [if_pos h0], rfl⟩
      · skip
        omega
  · rw [if_neg h0]
    exact l_mostEven g num l N _ hI hl hH hN hG (by omega) (g 1).toNat 0 (-1) (-1) uv (by omega) rfl
