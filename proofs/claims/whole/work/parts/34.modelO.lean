/-! ===== the reference: lights that were lit ===== -/
/-- the next n stops are the twos of nm from i on -/
def fit (sp : Int) (st : Nat → Nat → Int) (nm : Nat → Int) : Nat → Nat → Tr → Bool
  | 0, _, _ => true
  | n + 1, i, t => match tgo sp st t with
    | none => false
    | some t' => decide ((t'.1 : Int) = nm i) && (decide (t'.2.2.2.2 = nm (i + 1)) && fit sp st nm n (i + 2) t')
theorem fit_came (sp : Int) (st : Nat → Nat → Int) (nm : Nat → Int) (n i : Nat) (t : Tr) (c' : Int) : fit sp st nm n i t = fit sp st nm n i (t.1, t.2.1, t.2.2.1, t.2.2.2.1, c') := by
  cases n with
  | zero => rfl
  | succ n => rfl
def fitV (g nm : Nat → Int) (l s n : Nat) : Bool := fit (g (22 + l)) (stopV g l) nm n 0 (withLit (liftT g l) s)
def okS (g nm : Nat → Int) (l n s : Nat) : Bool := !s.testBit (g (60 + l)).toNat && fitV g nm l s n
def cntF (g nm : Nat → Int) (l n : Nat) : Nat → Nat
  | 0 => 0
  | s + 1 => cntF g nm l n s + (if okS g nm l n s = true then 1 else 0)
def allF (g nm : Nat → Int) (l n : Nat) : Nat → Nat
  | 0 => 2 ^ (g 1).toNat - 1
  | s + 1 => if okS g nm l n s = true then allF g nm l n s &&& s else allF g nm l n s
def litF (g nm : Nat → Int) (l n f : Nat) : Nat → Nat
  | 0 => 0
  | s + 1 => litF g nm l n f s + (if okS g nm l n s = true ∧ s.testBit f = true then 1 else 0)
theorem cntF_le (g nm : Nat → Int) (l n : Nat) : ∀ s, cntF g nm l n s ≤ s := by
  intro s
  induction s with
  | zero => exact Nat.le_refl 0
  | succ s ih => unfold cntF; split <;> omega
theorem litF_le (g nm : Nat → Int) (l n f : Nat) : ∀ s, litF g nm l n f s ≤ s := by
  intro s
  induction s with
  | zero => exact Nat.le_refl 0
  | succ s ih => unfold litF; split <;> omega
theorem allF_lt {g nm : Nat → Int} {l n : Nat} (h : (g 1).toNat ≤ 12) : ∀ s, allF g nm l n s < 4096 := by
  intro s
  induction s with
  | zero => unfold allF; have : 2 ^ (g 1).toNat ≤ 2 ^ 12 := Nat.pow_le_pow_right (by decide) h; omega
  | succ s ih => unfold allF; split
                 · exact and_lt ih
                 · exact ih
set_option maxRecDepth 4000 in
theorem l_fits {Γ : Gm} {d : Nat} {m0 : Mem} (x3 : Int) (t l F : Nat) (N : Nat) (ht : t < 4) (hN : N ≤ 8) (hl : l < 3) (hI : HI (m0 212)) (hFF : m0 212 1 = F) (hnn : ∀ i, i < N → 0 ≤ m0 222 (40 * t + 2 * i)) : ∀ (n i k : Nat), i + n = N → k = 2 * i → ∀ (h : Nat) (tt : Int) (s : Nat) (u : Bool) (c : Int) (m : Mem), Fr sT m0 m → m 212 = m0 212 → TMc m l (h, tt, s, u, c) → tOk2 F (h, tt, s, u, c) → Em Γ (d + 4) MX12_fits (fun r m' => r = (if fit (m0 212 (22 + l)) (stopV (m0 212) l) (fun i => m0 222 (40 * t + i)) n (2 * i) (h, tt, s, u, c) = true then 1 else 0) ∧ Fr sT m0 m') 13 [rv 211, iv t, iv l, iv x3, iv ((2 * N : Nat) : Int), iv k] [] m := by
  intro n
  induction n with
  | zero =>
    intro i k hi hk h tt s u c m hF0 g12 hT hok
    refine Ev.iload (q := 15) dX12_fits_13 rfl rfl ?_
    refine Ev.iload (q := 17) dX12_fits_15 rfl rfl ?_
    refine Ev.icmp_ge (tgt := 72) (q := 20) dX12_fits_17 (by decide) rfl (fun h1 => ?_) (fun h1 => ?_)
    · skip
      refine Ev.iconst (q := 73) dX12_fits_72 ki_1 rfl ?_
      refine rZ dX12_fits_73 rfl (by decide) ?_
      exact ⟨rfl, hF0⟩
    · skip
      omega
  | succ n ih =>
    intro i k hi hk h tt s u c m hF0 g12 hT hok
    refine Ev.iload (q := 15) dX12_fits_13 rfl rfl ?_
    refine Ev.iload (q := 17) dX12_fits_15 rfl rfl ?_
    refine Ev.icmp_ge (tgt := 72) (q := 20) dX12_fits_17 (by decide) rfl (fun h1 => ?_) (fun h1 => ?_)
    · skip
      omega
    · skip
      refine Ev.aload_n (q := 21) dX12_fits_20 rfl rfl ?_
      refine cV0i (q := 24) (d' := d + 3) dX12_fits_21 mlX12_251 moX12_goes mvX12_goes k211 rfl rfl rfl (Nat.le_refl _) rfl rfl rfl (p_X12_goes l F h tt s u c hT.1 hok.1 (by rw [g12]; exact hFF) hl (by rw [g12]; exact hI.law1)) (fun r2 m2 e2 => ?_)
      obtain ⟨eN, eS⟩ := e2
      rw [g12] at eN eS
      generalize hr9 : r2 = r9 at *
      have hM1 : Fr sT m0 m2 ∧ m2 212 = m0 212 ∧ m2 222 = m0 222 := by
        cases hq : tgo (m0 212 (22 + l)) (stopV (m0 212) l) (h, tt, s, u, c) with
        | none => rw [(eN hq).2]; exact ⟨hF0, g12, hF0.row 222 (fun _ => rfl)⟩
        | some t' =>
          have hf := hF0.tr (eS t' hq).2.2
          exact ⟨hf, hf.row 212 (fun _ => rfl), hf.row 222 (fun _ => rfl)⟩
      obtain ⟨hF1, g1, n1⟩ := hM1
      generalize m2 = M1 at *
      refine Ev.i2l (q := 25) dX12_fits_24 rfl ?_
      refine Ev.aload_n (q := 26) dX12_fits_25 rfl rfl ?_
      refine gR (q := 29) dX12_fits_26 gfX12_48 k211 r211_34 rfl rfl ?_
      refine Ev.bipush (q := 31) dX12_fits_29 kb_40 rfl ?_
      refine Ev.iload_n (q := 32) dX12_fits_31 rfl rfl ?_
      refine Ev.imul (q := 33) dX12_fits_32 rfl ?_
      refine Ev.iload (q := 35) dX12_fits_33 rfl rfl ?_
      refine Ev.iadd (q := 36) dX12_fits_35 rfl ?_
      refine aJ (q := 37) (k := 40 * t + k) dX12_fits_36 k222 (by first | rfl | omega | (simp (disch := omega) only [w32_of]; omega)) (by omega) rfl ?_
      rw [n1]
      refine Em.ok (fun hL9 hS9 hM9 => ?_)
      have q1 := okV_j (okA_0 hS9)
      have q2 := okV_j (okA_1 hS9)
      refine Ev.lcmp (q := 38) dX12_fits_37 rfl ?_
      refine Ev.if_ne (tgt := 64) (q := 41) dX12_fits_38 (by decide) rfl (fun h3 => ?_) (fun h3 => ?_)
      · skip
        rw [lcmp_z q2 q1] at h3
        refine Ev.iconst (q := 65) dX12_fits_64 ki_0 rfl ?_
        refine rZ dX12_fits_65 rfl (by decide) ?_
        refine ⟨?_, hF1⟩
        conv => rhs; unfold fit
        cases hq : tgo (m0 212 (22 + l)) (stopV (m0 212) l) (h, tt, s, u, c) with
        | none => rfl
        | some t' =>
          have h8 := (eS t' hq).1
          dsimp only
          rw [if_neg (by intro z; simp only [Bool.and_eq_true, decide_eq_true_eq] at z; have z1 := z.1; rw [show 2 * i = k by omega, ← h8] at z1; contradiction)]
      · skip
        rw [lcmp_z q2 q1] at h3
        obtain ⟨t', ht'⟩ : ∃ t', tgo (m0 212 (22 + l)) (stopV (m0 212) l) (h, tt, s, u, c) = some t' := by
          cases hq : tgo (m0 212 (22 + l)) (stopV (m0 212) l) (h, tt, s, u, c) with
          | none =>
            have h9 := (eN hq).1
            have h8 := hnn i (by omega)
            rw [show 2 * i = k by omega] at h8
            omega
          | some t' => exact ⟨t', rfl⟩
        obtain ⟨hr8, hT', hfr⟩ := eS t' ht'
        have hok' := tgo_ok2 hok ht'
        obtain ⟨h9, tt9, s9, u9, c9⟩ := t'
        dsimp only at hr8
        refine Ev.aload_n (q := 42) dX12_fits_41 rfl rfl ?_
        refine gI (q := 45) dX12_fits_42 gfX12_221 k211 rfl rfl ?_
        rw [show M1 211 22 = c9 from hT'.2]
        refine Ev.i2l (q := 46) dX12_fits_45 rfl ?_
        refine Ev.aload_n (q := 47) dX12_fits_46 rfl rfl ?_
        refine gR (q := 50) dX12_fits_47 gfX12_48 k211 r211_34 rfl rfl ?_
        refine Ev.bipush (q := 52) dX12_fits_50 kb_40 rfl ?_
        refine Ev.iload_n (q := 53) dX12_fits_52 rfl rfl ?_
        refine Ev.imul (q := 54) dX12_fits_53 rfl ?_
        refine Ev.iload (q := 56) dX12_fits_54 rfl rfl ?_
        refine Ev.iadd (q := 57) dX12_fits_56 rfl ?_
        refine Ev.iconst (q := 58) dX12_fits_57 ki_1 rfl ?_
        refine Ev.iadd (q := 59) dX12_fits_58 rfl ?_
        refine aJ (q := 60) (k := 40 * t + k + 1) dX12_fits_59 k222 (by first | rfl | omega | (simp (disch := omega) only [w32_of]; omega)) (by omega) rfl ?_
        rw [n1]
        refine Em.ok (fun hL9 hS9 hM9 => ?_)
        have q3 := okV_j (okA_0 hS9)
        have q4 := okV_j (okA_1 hS9)
        refine Ev.lcmp (q := 61) dX12_fits_60 rfl ?_
        refine Ev.if_eq (tgt := 66) (q := 64) dX12_fits_61 (by decide) rfl (fun h4 => ?_) (fun h4 => ?_)
        · skip
          rw [lcmp_z q4 q3] at h4
          refine iinc_5 (q := 69) dX12_fits_66 rfl rfl rfl ?_
          refine Ev.goto (q := 13) dX12_fits_69 (by decide) ?_
          have e9 : fit (m0 212 (22 + l)) (stopV (m0 212) l) (fun i => m0 222 (40 * t + i)) (n + 1) (2 * i) (h, tt, s, u, c) = fit (m0 212 (22 + l)) (stopV (m0 212) l) (fun i => m0 222 (40 * t + i)) n (2 * (i + 1)) (h9, tt9, s9, u9, c9) := by
            conv => lhs; unfold fit
            rw [ht']
            dsimp only
            rw [decide_eq_true (p := (h9 : Int) = m0 222 (40 * t + 2 * i)) (by rw [show 2 * i = k by omega, ← hr8]; assumption), decide_eq_true (p := c9 = m0 222 (40 * t + (2 * i + 1))) (by rw [show 40 * t + (2 * i + 1) = 40 * t + k + 1 by omega]; assumption), Bool.true_and, Bool.true_and]
            rfl
          rw [e9, w32_of (by omega) (by omega)]
          exact ih (i + 1) (k + 2) (by omega) (by omega) h9 tt9 s9 u9 c9 M1 hF1 g1 hT' hok'
        · skip
          rw [lcmp_z q4 q3] at h4
          refine Ev.iconst (q := 65) dX12_fits_64 ki_0 rfl ?_
          refine rZ dX12_fits_65 rfl (by decide) ?_
          refine ⟨?_, hF1⟩
          conv => rhs; unfold fit
          rw [ht']
          dsimp only
          rw [if_neg (by intro z; simp only [Bool.and_eq_true, decide_eq_true_eq] at z; have z1 := z.2.1; rw [show 40 * t + (2 * i + 1) = 40 * t + k + 1 by omega] at z1; contradiction)]
set_option maxRecDepth 4000 in
theorem p_X12_fits {Γ : Gm} {d : Nat} {m : Mem} (t l s N : Nat) (ht : t < 4) (hN : N ≤ 8) (hI : HI (m 212)) (hl : (l : Int) < m 212 2) (hs : litOk (m 212) l s) (hnn : ∀ i, i < N → 0 ≤ m 222 (40 * t + 2 * i)) : Ci Γ (d + 4) MX12_fits [rv 211, iv t, iv l, iv s, iv ((2 * N : Nat) : Int)] m (fun r m' => r = (if fitV (m 212) (fun i => m 222 (40 * t + i)) l s N = true then 1 else 0) ∧ Fr sT m m') := by
  refine Ci.of moX12_fits rfl rfl (fun hA hM => ?_)
  show Em Γ (d + 4) MX12_fits _ 0 [rv 211, iv t, iv l, iv s, iv ((2 * N : Nat) : Int), uv] [] m
  have hF9 := hI.1
  have hL3 := hI.2.1
  have hP8 := hI.2.2.1
  have hlift := hI.lift hl
  obtain ⟨F, hFF⟩ : ∃ F : Nat, m 212 1 = F := ⟨(m 212 1).toNat, by omega⟩
  have hFt : (m 212 1).toNat = F := by omega
  refine Ev.aload_n (q := 1) dX12_fits_0 rfl rfl ?_
  refine Ev.iload_n (q := 2) dX12_fits_1 rfl rfl ?_
  refine cV1v (q := 5) (d' := d + 3) dX12_fits_2 mlX12_234 moX12_loads mvX12_loads k211 rfl rfl rfl (Nat.le_refl _) rfl rfl rfl (p_X12_loads l (by omega) hlift.1.1 hlift.2.1.1) (fun r1 m1 e1 => ?_)
  obtain ⟨hT, hfr⟩ := e1
  generalize m1 = M2 at *
  have g2 : M2 212 = m 212 := hfr.row 212 (fun _ => rfl)
  refine Ev.aload_n (q := 6) dX12_fits_5 rfl rfl ?_
  refine Ev.iload_n (q := 7) dX12_fits_6 rfl rfl ?_
  refine pI (q := 10) dX12_fits_7 gfX12_200 k211 rfl rfl ?_
  refine Ev.iconst (q := 11) dX12_fits_10 ki_0 rfl ?_
  refine istore_5 (q := 13) dX12_fits_11 rfl rfl rfl ?_
  have hk9 := l_fits (Γ := Γ) (d := d) (m0 := m) (s : Int) t l F N ht hN (by omega) hI hFF hnn N 0 0 (by omega) (by omega) (m 212 (60 + l)).toNat (m 212 (63 + l)) s (decide (m 212 (69 + l) = 1)) (M2 211 22) (up M2 211 21 (s : Int)) (hfr.up rfl) (by rw [up_na _ _ (by decide)]; exact g2) (by
    unfold TMc TM
    simp (disch := omega) only [up_k, up_eq]
    refine ⟨⟨hT.1, hT.2.1, hT.2.2.1, ?_, hT.2.2.2.2⟩, ?_⟩ <;> first | trivial | rfl) (by have := HI.liftOk hI hl hs.1 hs.2 (tt := m 212 (63 + l)) (u := decide (m 212 (69 + l) = 1)) (c := M2 211 22); rw [hFt] at this; exact this)
  unfold fitV
  rw [fit_came _ _ _ _ _ _ (M2 211 22)]
  exact hk9
