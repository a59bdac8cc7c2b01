/-! ===== the reference: laws are read ===== -/
section LAWS
variable {tx : Nat → Int} {N law : Nat}
theorem ps0 (n deep : Nat) (t : Tok) : psR tx N law (n + 1) 0 deep t = bE (psR tx N law n 2 deep t) fun a => bE (psR tx N law n 1 deep a.2) fun b => .inr (a.1 ++ b.1, b.2) := by conv => lhs; unfold psR; rw [if_pos rfl]
theorem ps2 (n deep : Nat) (t : Tok) : psR tx N law (n + 1) 2 deep t = bE (psR tx N law n 4 deep t) fun a => bE (psR tx N law n 3 deep a.2) fun b => .inr (a.1 ++ b.1, b.2) := by conv => lhs; unfold psR; rw [if_neg (by decide), if_neg (by decide), if_pos rfl]
theorem ps1 (n deep : Nat) (t : Tok) : psR tx N law (n + 1) 1 deep t = if t.1 = 32 ∨ t.1 = 33 then bE (psR tx N law n 2 deep (nxS tx N t)) fun a => bE (psR tx N law n 1 deep a.2) fun b => .inr (a.1 ++ ((if t.1 = 32 then 3000 else 3001) :: b.1), b.2) else .inr ([], t) := by conv => lhs; unfold psR; rw [if_neg (by decide), if_pos rfl]
theorem ps3 (n deep : Nat) (t : Tok) : psR tx N law (n + 1) 3 deep t = if t.1 = 34 then bE (psR tx N law n 4 deep (nxS tx N t)) fun a => bE (psR tx N law n 3 deep a.2) fun b => .inr (a.1 ++ (3002 :: b.1), b.2) else .inr ([], t) := by conv => lhs; unfold psR; rw [if_neg (by decide), if_neg (by decide), if_neg (by decide), if_pos rfl]
theorem ps4 (n deep : Nat) (t : Tok) : psR tx N law (n + 1) 4 deep t = if t.1 = 23 then .inr ([t.2.2.2], nxS tx N t) else if ¬ wdV law t.1 = -1 then .inr ([1000 + wdV law t.1], nxS tx N t) else
      if t.1 = 35 then (if deep = 6 then flS t 4 else bE (psR tx N law n 0 (deep + 1) (nxS tx N t)) fun a => bE (eaS tx N 36 a.2) fun t' => .inr (a.1, t')) else flS t 2 := by conv => lhs; unfold psR; rw [if_neg (by decide), if_neg (by decide), if_neg (by decide), if_neg (by decide)]
end LAWS
theorem bE_l {α β : Type} {x : Er α} {k : α → Er β} {e : Int × Nat} (h : x = .inl e) : bE x k = .inl e := by rw [h]; rfl
theorem bE_r {α β : Type} {x : Er α} {k : α → Er β} {a : α} (h : x = .inr a) : bE x k = k a := by rw [h]; rfl
theorem bE_inv {α β : Type} {x : Er α} {k : α → Er β} {b : β} (h : bE x k = .inr b) : ∃ a, x = .inr a ∧ k a = .inr b := by
  cases x with
  | inl e => cases h
  | inr a => exact ⟨a, rfl, h⟩
theorem bE_a {α β γ : Type} (x : Er α) (k : α → Er β) (l : β → Er γ) : bE (bE x k) l = bE x fun a => bE (k a) l := by cases x <;> rfl
theorem nx_lt {tx : Nat → Int} {N : Nat} {t : Tok} (h : tOK tx N t) (h24 : ¬ t.1 = 24) : t.2.1 + 1 ≤ (nxS tx N t).2.1 := by
  have h1 := (tOK_nx h).2
  have h2 := h.2.2.1 h24
  omega
/-- what is read is consumed -/
theorem ps_len {tx : Nat → Int} {N law : Nat} : ∀ (n mode deep : Nat) (t : Tok) (cs : List Int) (t' : Tok), mode ≤ 4 → tOK tx N t → 6 * (N - t.2.1) + (if mode = 0 then 3 else if mode = 2 then 2 else 1) ≤ n → psR tx N law n mode deep t = .inr (cs, t') → tOK tx N t' ∧ cs.length + t.2.1 ≤ t'.2.1 ∧ (mode % 2 = 0 → t.2.1 + 1 ≤ t'.2.1) := by
  intro n
  induction n with
  | zero => intro mode deep t cs t' hm hO hn; split at hn <;> (try split at hn) <;> omega
  | succ n ih =>
    intro mode deep t cs t' hm hO hn he
    have hle : t.2.1 ≤ N := by have := hO.1; have := hO.2.1; omega
    rcases (show mode = 0 ∨ mode = 1 ∨ mode = 2 ∨ mode = 3 ∨ mode = 4 by omega) with rfl | rfl | rfl | rfl | rfl
    · rw [ps0] at he
      obtain ⟨a, h1, he⟩ := bE_inv he
      obtain ⟨b, h2, he⟩ := bE_inv he
      simp only [if_true] at hn
      obtain ⟨q1, q2, q3⟩ := ih 2 deep t a.1 a.2 (by omega) hO (by simp only [if_true]; simp; omega) h1
      have q3' := q3 (by decide)
      have hle2 : a.2.2.1 ≤ N := by have := q1.1; have := q1.2.1; omega
      obtain ⟨r1, r2, r3⟩ := ih 1 deep a.2 b.1 b.2 (by omega) q1 (by simp; omega) h2
      cases he
      rw [List.length_append]
      exact ⟨r1, by omega, fun _ => by omega⟩
    · rw [ps1] at he
      by_cases hk : t.1 = 32 ∨ t.1 = 33
      · rw [if_pos hk] at he
        obtain ⟨a, h1, he⟩ := bE_inv he
        obtain ⟨b, h2, he⟩ := bE_inv he
        have hx := nx_lt hO (show ¬ t.1 = 24 by omega)
        have hO1 := (tOK_nx hO).1
        have hle1 : (nxS tx N t).2.1 ≤ N := by have := hO1.1; have := hO1.2.1; omega
        simp at hn
        obtain ⟨q1, q2, q3⟩ := ih 2 deep _ a.1 a.2 (by omega) hO1 (by simp; omega) h1
        have q3' := q3 (by decide)
        have hle2 : a.2.2.1 ≤ N := by have := q1.1; have := q1.2.1; omega
        obtain ⟨r1, r2, r3⟩ := ih 1 deep a.2 b.1 b.2 (by omega) q1 (by simp; omega) h2
        cases he
        rw [List.length_append, List.length_cons]
        exact ⟨r1, by omega, fun z => by omega⟩
      · rw [if_neg hk] at he
        cases he
        exact ⟨hO, by simp, fun z => by omega⟩
    · rw [ps2] at he
      obtain ⟨a, h1, he⟩ := bE_inv he
      obtain ⟨b, h2, he⟩ := bE_inv he
      simp at hn
      obtain ⟨q1, q2, q3⟩ := ih 4 deep t a.1 a.2 (by omega) hO (by simp; omega) h1
      have q3' := q3 (by decide)
      have hle2 : a.2.2.1 ≤ N := by have := q1.1; have := q1.2.1; omega
      obtain ⟨r1, r2, r3⟩ := ih 3 deep a.2 b.1 b.2 (by omega) q1 (by simp; omega) h2
      cases he
      rw [List.length_append]
      exact ⟨r1, by omega, fun _ => by omega⟩
    · rw [ps3] at he
      by_cases hk : t.1 = 34
      · rw [if_pos hk] at he
        obtain ⟨a, h1, he⟩ := bE_inv he
        obtain ⟨b, h2, he⟩ := bE_inv he
        have hx := nx_lt hO (show ¬ t.1 = 24 by omega)
        have hO1 := (tOK_nx hO).1
        have hle1 : (nxS tx N t).2.1 ≤ N := by have := hO1.1; have := hO1.2.1; omega
        simp at hn
        obtain ⟨q1, q2, q3⟩ := ih 4 deep _ a.1 a.2 (by omega) hO1 (by simp; omega) h1
        have q3' := q3 (by decide)
        have hle2 : a.2.2.1 ≤ N := by have := q1.1; have := q1.2.1; omega
        obtain ⟨r1, r2, r3⟩ := ih 3 deep a.2 b.1 b.2 (by omega) q1 (by simp; omega) h2
        cases he
        rw [List.length_append, List.length_cons]
        exact ⟨r1, by omega, fun z => by omega⟩
      · rw [if_neg hk] at he
        cases he
        exact ⟨hO, by simp, fun z => by omega⟩
    · rw [ps4] at he
      by_cases h23 : t.1 = 23
      · rw [if_pos h23] at he
        cases he
        have hx := nx_lt hO (show ¬ t.1 = 24 by omega)
        exact ⟨(tOK_nx hO).1, by show 1 + t.2.1 ≤ _; omega, fun _ => hx⟩
      · rw [if_neg h23] at he
        by_cases hw : wdV law t.1 = -1
        · rw [if_neg (fun z => z hw)] at he
          by_cases h35 : t.1 = 35
          · rw [if_pos h35] at he
            by_cases h6 : deep = 6
            · rw [if_pos h6] at he; cases he
            · rw [if_neg h6] at he
              obtain ⟨a, h1, he⟩ := bE_inv he
              obtain ⟨b, h2, he⟩ := bE_inv he
              have hx := nx_lt hO (show ¬ t.1 = 24 by omega)
              have hO1 := (tOK_nx hO).1
              have hle1 : (nxS tx N t).2.1 ≤ N := by have := hO1.1; have := hO1.2.1; omega
              simp at hn
              obtain ⟨q1, q2, q3⟩ := ih 0 (deep + 1) _ a.1 a.2 (by omega) hO1 (by simp; omega) h1
              have q3' := q3 (by decide)
              unfold eaS at h2
              by_cases h36 : a.2.1 = 36
              · rw [if_pos h36] at h2
                cases h2
                cases he
                have hx2 := nx_lt q1 (show ¬ a.2.1 = 24 by omega)
                exact ⟨(tOK_nx q1).1, by omega, fun _ => by omega⟩
              · rw [if_neg h36] at h2; cases h2
          · rw [if_neg h35] at he; cases he
        · rw [if_pos hw] at he
          cases he
          have h24 : ¬ t.1 = 24 := fun z => hw (by rw [z]; unfold wdV; repeat (first | rfl | omega | split))
          have hx := nx_lt hO h24
          exact ⟨(tOK_nx hO).1, by show 1 + t.2.1 ≤ _; omega, fun _ => hx⟩
def HLw (tx : Nat → Int) (N law : Nat) (t : Tok) (f : Row) (m : Mem) : Prop := TX m tx N ∧ tOK tx N t ∧ OKm m t f ∧ m 211 15 = law ∧ 0 ≤ f 457 ∧ f 457 ≤ t.2.1
def AtomC (Γ : Gm) (tx : Nat → Int) (N law n : Nat) : Prop := ∀ (D deep : Nat) (t : Tok) (f : Row) (m : Mem), deep ≤ 6 → 3 * (6 - deep) + 7 ≤ D → HLw tx N law t f m → 6 * (N - t.2.1) + 1 ≤ n → Ci Γ D MX12_readAtom [rv 211, iv (deep : Int)] m (fun r m' => PC m' f (psR tx N law n 4 deep t) ∧ Fr sPq m m')
def TermC (Γ : Gm) (tx : Nat → Int) (N law n : Nat) : Prop := ∀ (D deep : Nat) (t : Tok) (f : Row) (m : Mem), deep ≤ 6 → 3 * (6 - deep) + 8 ≤ D → HLw tx N law t f m → 6 * (N - t.2.1) + 2 ≤ n → Ci Γ D MX12_readTerm [rv 211, iv (deep : Int)] m (fun r m' => PC m' f (psR tx N law n 2 deep t) ∧ Fr sPq m m')
def SumC (Γ : Gm) (tx : Nat → Int) (N law n : Nat) : Prop := ∀ (D deep : Nat) (t : Tok) (f : Row) (m : Mem), deep ≤ 6 → 3 * (6 - deep) + 9 ≤ D → HLw tx N law t f m → 6 * (N - t.2.1) + 3 ≤ n → Ci Γ D MX12_readSum [rv 211, iv (deep : Int)] m (fun r m' => PC m' f (psR tx N law n 0 deep t) ∧ Fr sPq m m')
def TermL (Γ : Gm) (tx : Nat → Int) (N law n : Nat) : Prop := ∀ (D deep : Nat) (t : Tok) (f0 : Row) (cs0 : List Int) (m0 m : Mem), deep ≤ 6 → 3 * (6 - deep) + 8 ≤ D → HLw tx N law t (apC f0 cs0) m → 6 * (N - t.2.1) + 1 ≤ n → Fr sPq m0 m → Em Γ D MX12_readTerm (fun r m' => PC m' f0 (bE (psR tx N law n 3 deep t) fun b => .inr (cs0 ++ b.1, b.2)) ∧ Fr sPq m0 m') 5 [rv 211, iv (deep : Int)] [] m
def SumL (Γ : Gm) (tx : Nat → Int) (N law n : Nat) : Prop := ∀ (D deep : Nat) (t : Tok) (f0 : Row) (cs0 : List Int) (m0 m : Mem) (v2 : Vl), deep ≤ 6 → 3 * (6 - deep) + 9 ≤ D → HLw tx N law t (apC f0 cs0) m → 6 * (N - t.2.1) + 1 ≤ n → Fr sPq m0 m → Em Γ D MX12_readSum (fun r m' => PC m' f0 (bE (psR tx N law n 1 deep t) fun b => .inr (cs0 ++ b.1, b.2)) ∧ Fr sPq m0 m') 5 [rv 211, iv (deep : Int), v2] [] m
theorem HLw.nx {tx : Nat → Int} {N law : Nat} {t : Tok} {f : Row} {m m' : Mem} (h : HLw tx N law t f m) (h24 : ¬ t.1 = 24) (hk : OKm m' (nxS tx N t) f) (hF : Fr sPq m m') : HLw tx N law (nxS tx N t) f m' := ⟨h.1.q hF, (tOK_nx h.2.1).1, hk, by rw [hF 211 15 rfl]; exact h.2.2.2.1, h.2.2.2.2.1, by have := nx_lt h.2.1 h24; have := h.2.2.2.2.2; omega⟩
theorem Fr.q15 {m m' : Mem} (h : Fr sPq m m') : m' 211 15 = m 211 15 := h 211 15 rfl
set_option maxRecDepth 4000 in
theorem atom_s {Γ : Gm} {tx : Nat → Int} {N law n : Nat} (hN : N ≤ 900) (hlaw : law < 2) (hS : SumC Γ tx N law n) : AtomC Γ tx N law (n + 1) := by
  intro D0 deep t f m hd hD hH hn
  obtain ⟨D, rfl⟩ : ∃ D, D0 = D + 7 := ⟨D0 - 7, by omega⟩
  obtain ⟨hX, hO, h, h15, hf0, hfl⟩ := hH
  have hle : t.2.1 ≤ N := by have := hO.1; have := hO.2.1; omega
  refine Ci.of moX12_readAtom rfl rfl (fun hA hM => ?_)
  show Em Γ (D + 7) MX12_readAtom _ 0 [rv 211, iv deep] [] m
  refine Ev.aload_n (q := 1) dX12_readAtom_0 rfl rfl ?_
  refine Ev.bipush (q := 3) dX12_readAtom_1 kb_23 rfl ?_
  refine cV1i (q := 6) (d' := D + 6) dX12_readAtom_3 mlX12_108 moX12_is mvX12_is k211 rfl rfl rfl (Nat.le_refl _) rfl rfl rfl (p_X12_is 23) (fun r1 m1 e1 => ?_)
  obtain ⟨rfl, e1⟩ := e1
  obtain rfl := e1.symm
  rw [is_ok h]
  refine Ev.if_eq (tgt := 24) (q := 9) dX12_readAtom_6 (by decide) rfl (fun h2 => ?_) (fun h2 => ?_)
  · skip
    have h23 : ¬ t.1 = 23 := by split at h2 <;> omega
    refine Ev.aload_n (q := 25) dX12_readAtom_24 rfl rfl ?_
    refine gI (q := 28) dX12_readAtom_25 gfX12_102 k211 rfl rfl ?_
    rw [h.1]
    refine Ev.if_ne (tgt := 66) (q := 31) dX12_readAtom_28 (by decide) rfl (fun h3 => ?_) (fun h3 => ?_)
    · skip
      omega
    · skip
      refine Ev.aload_n (q := 32) dX12_readAtom_31 rfl rfl ?_
      refine Ev.aload_n (q := 33) dX12_readAtom_32 rfl rfl ?_
      refine gI (q := 36) dX12_readAtom_33 gfX12_84 k211 rfl rfl ?_
      rw [h.2.1.1]
      refine cV1i (q := 39) (d' := D + 6) dX12_readAtom_36 mlX12_128 moX12_wordOf mvX12_wordOf k211 rfl rfl rfl (Nat.le_refl _) rfl rfl rfl (p_X12_wordOf law t.1 h15 hlaw) (fun r4 m4 e4 => ?_)
      obtain ⟨rfl, e4⟩ := e4
      obtain rfl := e4.symm
      refine Ev.iconst (q := 40) dX12_readAtom_39 ki_m1 rfl ?_
      refine Ev.icmp_eq (tgt := 66) (q := 43) dX12_readAtom_40 (by decide) rfl (fun h5 => ?_) (fun h5 => ?_)
      · skip
        have hwd : wdV law t.1 = -1 := by assumption
        refine Ev.aload_n (q := 67) dX12_readAtom_66 rfl rfl ?_
        refine Ev.bipush (q := 69) dX12_readAtom_67 kb_35 rfl ?_
        refine cV1i (q := 72) (d' := D + 6) dX12_readAtom_69 mlX12_108 moX12_is mvX12_is k211 rfl rfl rfl (Nat.le_refl _) rfl rfl rfl (p_X12_is 35) (fun r6 m6 e6 => ?_)
        obtain ⟨rfl, e6⟩ := e6
        obtain rfl := e6.symm
        rw [is_ok h]
        refine Ev.if_eq (tgt := 108) (q := 75) dX12_readAtom_72 (by decide) rfl (fun h7 => ?_) (fun h7 => ?_)
        · skip
          have h35 : ¬ t.1 = 35 := by split at h7 <;> omega
          refine Ev.aload_n (q := 109) dX12_readAtom_108 rfl rfl ?_
          refine Ev.iconst (q := 110) dX12_readAtom_109 ki_2 rfl ?_
          refine cV1v (q := 113) (d' := D + 6) dX12_readAtom_110 mlX12_114 moX12_fails mvX12_fails k211 rfl rfl rfl (Nat.le_refl _) rfl rfl rfl (p_X12_fails t f 2 (by decide) h) (fun r8 m8 e8 => ?_)
          obtain ⟨b1, b2⟩ := e8
          refine rV dX12_readAtom_113 rfl ?_
          have hps : psR tx N law (n + 1) 4 deep t = flS t 2 := by rw [ps4, if_neg h23, if_neg (fun z => z hwd), if_neg h35]
          rw [hps]
          exact ⟨b1, b2⟩
        · skip
          have h35 : t.1 = 35 := by split at h7 <;> omega
          refine Ev.aload_n (q := 76) dX12_readAtom_75 rfl rfl ?_
          refine Ev.iload_n (q := 77) dX12_readAtom_76 rfl rfl ?_
          refine cV1i (q := 80) (d' := D + 6) dX12_readAtom_77 mlX12_131 moX12_goesIn mvX12_goesIn k211 rfl rfl rfl (Nat.le_refl _) rfl rfl rfl (p_X12_goesIn tx N t f deep hN hX hO h) (fun r9 m9 e9 => ?_)
          obtain ⟨M9, rfl⟩ : ∃ M9, M9 = m9 := ⟨_, rfl⟩
          obtain ⟨g1, g2⟩ := e9
          refine Ev.if_ne (tgt := 84) (q := 83) dX12_readAtom_80 (by decide) rfl (fun h10 => ?_) (fun h10 => ?_)
          · skip
            have h6 : ¬ deep = 6 := fun z => by have := (g1 z).1; omega
            obtain ⟨-, x9, f9⟩ := g2 h6
            have hX9 := hX.q f9
            have hH9 : HLw tx N law (nxS tx N t) f M9 := HLw.nx ⟨hX, hO, h, h15, hf0, hfl⟩ (by omega) x9 f9
            have hx1 := nx_lt hO (show ¬ t.1 = 24 by omega)
            have hxN : (nxS tx N t).2.1 ≤ N := by have q := (tOK_nx hO).1; have := q.1; have := q.2.1; omega
            refine Ev.aload_n (q := 85) dX12_readAtom_84 rfl rfl ?_
            refine Ev.iload_n (q := 86) dX12_readAtom_85 rfl rfl ?_
            refine Ev.iconst (q := 87) dX12_readAtom_86 ki_1 rfl ?_
            refine Ev.iadd (q := 88) dX12_readAtom_87 rfl ?_
            rw [w32_of (by omega) (by omega), show (deep : Int) + 1 = ((deep + 1 : Nat) : Int) by omega]
            refine cV1v (q := 91) (d' := D + 6) dX12_readAtom_88 mlX12_134 moX12_readSum mvX12_readSum k211 rfl rfl rfl (Nat.le_refl _) rfl rfl rfl (hS (D + 6) (deep + 1) (nxS tx N t) f M9 (by omega) (by omega) hH9 (by omega)) (fun r11 m11 e11 => ?_)
            obtain ⟨M8, rfl⟩ : ∃ M8, M8 = m11 := ⟨_, rfl⟩
            obtain ⟨x8, f8⟩ := e11
            cases hx : psR tx N law n 0 (deep + 1) (nxS tx N t) with
            | inl e =>
              rw [hx] at x8
              have x8 : BDm M8 e := x8
              refine Ev.aload_n (q := 92) dX12_readAtom_91 rfl rfl ?_
              refine Ev.bipush (q := 94) dX12_readAtom_92 kb_36 rfl ?_
              refine cV1i (q := 97) (d' := D + 6) dX12_readAtom_94 mlX12_137 moX12_eats mvX12_eats k211 rfl rfl rfl (Nat.le_refl _) rfl rfl rfl (p_X12_eats_bd e 36 x8) (fun r31 m31 e31 => ?_)
              obtain ⟨rfl, e31⟩ := e31
              obtain rfl := e31.symm
              refine Ev.if_ne (tgt := 113) (q := 100) dX12_readAtom_97 (by decide) rfl (fun h32 => ?_) (fun h32 => ?_)
              · skip
                omega
              · skip
                refine Ev.aload_n (q := 101) dX12_readAtom_100 rfl rfl ?_
                refine Ev.iconst (q := 102) dX12_readAtom_101 ki_2 rfl ?_
                refine cV1v (q := 105) (d' := D + 6) dX12_readAtom_102 mlX12_114 moX12_fails mvX12_fails k211 rfl rfl rfl (Nat.le_refl _) rfl rfl rfl (p_X12_fails_bd e 2 x8) (fun r33 m33 e33 => ?_)
                obtain rfl := (show _ = _ from e33).symm
                refine Ev.goto (q := 113) dX12_readAtom_105 (by decide) ?_
                refine rV dX12_readAtom_113 rfl ?_
                have hps : psR tx N law (n + 1) 4 deep t = .inl e := by rw [ps4, if_neg h23, if_neg (fun z => z hwd), if_pos h35, if_neg h6, bE_l hx]
                rw [hps]
                exact ⟨x8, f9.tr f8⟩
            | inr a =>
              rw [hx] at x8
              have x8 : OKm M8 a.2 (apC f a.1) := x8
              obtain ⟨q1, q2, q3⟩ := ps_len n 0 (deep + 1) (nxS tx N t) a.1 a.2 (by omega) hH9.2.1 (by simp only [if_true]; omega) hx
              refine Ev.aload_n (q := 92) dX12_readAtom_91 rfl rfl ?_
              refine Ev.bipush (q := 94) dX12_readAtom_92 kb_36 rfl ?_
              refine cV1i (q := 97) (d' := D + 6) dX12_readAtom_94 mlX12_137 moX12_eats mvX12_eats k211 rfl rfl rfl (Nat.le_refl _) rfl rfl rfl (p_X12_eats tx N a.2 (apC f a.1) 36 hN (hX9.q f8) q1 x8) (fun r31 m31 e31 => ?_)
              obtain ⟨ey, en⟩ := e31
              refine Ev.if_ne (tgt := 113) (q := 100) dX12_readAtom_97 (by decide) rfl (fun h32 => ?_) (fun h32 => ?_)
              · skip
                have h36 : a.2.1 = 36 := Classical.byContradiction fun z => by have := (en z).1; omega
                obtain ⟨-, ey2, ey3⟩ := ey h36
                refine rV dX12_readAtom_113 rfl ?_
                have hps : psR tx N law (n + 1) 4 deep t = .inr (a.1, nxS tx N a.2) := by rw [ps4, if_neg h23, if_neg (fun z => z hwd), if_pos h35, if_neg h6, bE_r hx]; unfold eaS; rw [if_pos h36]; rfl
                rw [hps]
                exact ⟨ey2, f9.tr (f8.tr ey3)⟩
              · skip
                have h36 : ¬ a.2.1 = 36 := fun z => by have := (ey z).1; omega
                obtain ⟨-, rfl⟩ := en h36
                refine Ev.aload_n (q := 101) dX12_readAtom_100 rfl rfl ?_
                refine Ev.iconst (q := 102) dX12_readAtom_101 ki_2 rfl ?_
                refine cV1v (q := 105) (d' := D + 6) dX12_readAtom_102 mlX12_114 moX12_fails mvX12_fails k211 rfl rfl rfl (Nat.le_refl _) rfl rfl rfl (p_X12_fails a.2 (apC f a.1) 2 (by decide) x8) (fun r33 m33 e33 => ?_)
                obtain ⟨b1, b2⟩ := e33
                refine Ev.goto (q := 113) dX12_readAtom_105 (by decide) ?_
                refine rV dX12_readAtom_113 rfl ?_
                have hps : psR tx N law (n + 1) 4 deep t = flS a.2 2 := by rw [ps4, if_neg h23, if_neg (fun z => z hwd), if_pos h35, if_neg h6, bE_r hx]; unfold eaS; rw [if_neg h36]; rfl
                rw [hps]
                exact ⟨b1, f9.tr (f8.tr b2)⟩
          · skip
            have h6 : deep = 6 := Classical.byContradiction fun z => by have := (g2 z).1; omega
            obtain ⟨-, b1, b2⟩ := g1 h6
            refine rV dX12_readAtom_83 rfl ?_
            have hps : psR tx N law (n + 1) 4 deep t = flS t 4 := by rw [ps4, if_neg h23, if_neg (fun z => z hwd), if_pos h35, if_pos h6]
            rw [hps]
            exact ⟨b1, b2⟩
      · skip
        have hwd : ¬ wdV law t.1 = -1 := by assumption
        have h24 : ¬ t.1 = 24 := fun z => hwd (by rw [z]; unfold wdV; repeat (first | rfl | omega | split))
        have hx1 := nx_lt hO h24
        have hxN : (nxS tx N t).2.1 ≤ N := by have q := (tOK_nx hO).1; have := q.1; have := q.2.1; omega
        have hwb : -1 ≤ wdV law t.1 ∧ wdV law t.1 ≤ 5 := by unfold wdV; repeat (first | omega | split)
        refine Ev.aload_n (q := 44) dX12_readAtom_43 rfl rfl ?_
        refine Ev.sipush (q := 47) dX12_readAtom_44 kh_1000 rfl ?_
        refine Ev.aload_n (q := 48) dX12_readAtom_47 rfl rfl ?_
        refine Ev.aload_n (q := 49) dX12_readAtom_48 rfl rfl ?_
        refine gI (q := 52) dX12_readAtom_49 gfX12_84 k211 rfl rfl ?_
        rw [h.2.1.1]
        refine cV1i (q := 55) (d' := D + 6) dX12_readAtom_52 mlX12_128 moX12_wordOf mvX12_wordOf k211 rfl rfl rfl (Nat.le_refl _) rfl rfl rfl (p_X12_wordOf law t.1 h15 hlaw) (fun r12 m12 e12 => ?_)
        obtain ⟨rfl, e12⟩ := e12
        obtain rfl := e12.symm
        refine Ev.iadd (q := 56) dX12_readAtom_55 rfl ?_
        rw [w32_of (by omega) (by omega)]
        refine cV1v (q := 59) (d' := D + 6) dX12_readAtom_56 mlX12_125 moX12_codes mvX12_codes k211 rfl rfl rfl (Nat.le_refl _) rfl rfl rfl (p_X12_codes t f (1000 + wdV law t.1) (f 457).toNat h (by omega) (by omega)) (fun r13 m13 e13 => ?_)
        obtain ⟨M8, rfl⟩ : ∃ M8, M8 = m13 := ⟨_, rfl⟩
        obtain ⟨x8, f8⟩ := e13
        have hX8 := hX.q f8
        refine Ev.aload_n (q := 60) dX12_readAtom_59 rfl rfl ?_
        refine cV0v (q := 63) (d' := D + 6) dX12_readAtom_60 mlX12_111 moX12_next mvX12_next k211 rfl rfl rfl (Nat.le_refl _) rfl rfl rfl (p_X12_next N t.2.2.1 hN hO.2.1 hX8.1 x8.2.1.2.2.1) (fun r14 m14 e14 => ?_)
        obtain ⟨M9, rfl⟩ : ∃ M9, M9 = m14 := ⟨_, rfl⟩
        obtain ⟨y1, y2⟩ := e14
        rw [hX8.2] at y1
        have y3 := OKm_nx x8 (show TkM M9 (nxS tx N t) from y1) y2
        refine Ev.goto (q := 113) dX12_readAtom_63 (by decide) ?_
        refine rV dX12_readAtom_113 rfl ?_
        have hps : psR tx N law (n + 1) 4 deep t = .inr ([1000 + wdV law t.1], nxS tx N t) := by rw [ps4, if_neg h23, if_pos hwd]
        rw [hps]
        exact ⟨y3, f8.tr y2.pq⟩
  · skip
    have h23 : t.1 = 23 := by split at h2 <;> omega
    have hnum : m 211 10 = t.2.2.2 := h.2.1.2.2.2 h23
    have hx1 := nx_lt hO (show ¬ t.1 = 24 by omega)
    have hxN : (nxS tx N t).2.1 ≤ N := by have q := (tOK_nx hO).1; have := q.1; have := q.2.1; omega
    refine Ev.aload_n (q := 10) dX12_readAtom_9 rfl rfl ?_
    refine Ev.aload_n (q := 11) dX12_readAtom_10 rfl rfl ?_
    refine gI (q := 14) dX12_readAtom_11 gfX12_97 k211 rfl rfl ?_
    rw [hnum]
    refine cV1v (q := 17) (d' := D + 6) dX12_readAtom_14 mlX12_125 moX12_codes mvX12_codes k211 rfl rfl rfl (Nat.le_refl _) rfl rfl rfl (p_X12_codes t f t.2.2.2 (f 457).toNat h (by omega) (by omega)) (fun r15 m15 e15 => ?_)
    obtain ⟨M8, rfl⟩ : ∃ M8, M8 = m15 := ⟨_, rfl⟩
    obtain ⟨x8, f8⟩ := e15
    have hX8 := hX.q f8
    refine Ev.aload_n (q := 18) dX12_readAtom_17 rfl rfl ?_
    refine cV0v (q := 21) (d' := D + 6) dX12_readAtom_18 mlX12_111 moX12_next mvX12_next k211 rfl rfl rfl (Nat.le_refl _) rfl rfl rfl (p_X12_next N t.2.2.1 hN hO.2.1 hX8.1 x8.2.1.2.2.1) (fun r16 m16 e16 => ?_)
    obtain ⟨M9, rfl⟩ : ∃ M9, M9 = m16 := ⟨_, rfl⟩
    obtain ⟨y1, y2⟩ := e16
    rw [hX8.2] at y1
    have y3 := OKm_nx x8 (show TkM M9 (nxS tx N t) from y1) y2
    refine Ev.goto (q := 113) dX12_readAtom_21 (by decide) ?_
    refine rV dX12_readAtom_113 rfl ?_
    have hps : psR tx N law (n + 1) 4 deep t = .inr ([t.2.2.2], nxS tx N t) := by rw [ps4, if_pos h23]
    rw [hps]
    exact ⟨y3, f8.tr y2.pq⟩
set_option maxRecDepth 4000 in
theorem terml_s {Γ : Gm} {tx : Nat → Int} {N law n : Nat} (hN : N ≤ 900) (hlaw : law < 2) (hA : AtomC Γ tx N law n) (hL : TermL Γ tx N law n) : TermL Γ tx N law (n + 1) := by
  intro D0 deep t f0 cs0 m0 m hd hD hH hn hF
  obtain ⟨D, rfl⟩ : ∃ D, D0 = D + 8 := ⟨D0 - 8, by omega⟩
  obtain ⟨hX, hO, h, h15, hf0, hfl⟩ := hH
  have hle : t.2.1 ≤ N := by have := hO.1; have := hO.2.1; omega
  refine Ev.aload_n (q := 6) dX12_readTerm_5 rfl rfl ?_
  refine Ev.bipush (q := 8) dX12_readTerm_6 kb_34 rfl ?_
  refine cV1i (q := 11) (d' := D + 7) dX12_readTerm_8 mlX12_137 moX12_eats mvX12_eats k211 rfl rfl rfl (Nat.le_refl _) rfl rfl rfl (p_X12_eats tx N t (apC f0 cs0) 34 hN hX hO h) (fun r1 m1 e1 => ?_)
  obtain ⟨M9, rfl⟩ : ∃ M9, M9 = m1 := ⟨_, rfl⟩
  obtain ⟨ey, en⟩ := e1
  refine Ev.if_eq (tgt := 29) (q := 14) dX12_readTerm_11 (by decide) rfl (fun h2 => ?_) (fun h2 => ?_)
  · skip
    have h34 : ¬ t.1 = 34 := fun z => by have := (ey z).1; omega
    obtain ⟨-, rfl⟩ := en h34
    refine rV dX12_readTerm_29 rfl ?_
    have hps : psR tx N law (n + 1) 3 deep t = .inr ([], t) := by rw [ps3, if_neg h34]
    rw [hps]
    exact ⟨by show OKm M9 t (apC f0 (cs0 ++ [])); rw [List.append_nil]; exact h, hF⟩
  · skip
    have h34 : t.1 = 34 := Classical.byContradiction fun z => by have := (en z).1; omega
    obtain ⟨-, x9, f9⟩ := ey h34
    have hX9 := hX.q f9
    have hH9 : HLw tx N law (nxS tx N t) (apC f0 cs0) M9 := HLw.nx ⟨hX, hO, h, h15, hf0, hfl⟩ (by omega) x9 f9
    have hx1 := nx_lt hO (show ¬ t.1 = 24 by omega)
    have hxN : (nxS tx N t).2.1 ≤ N := by have q := (tOK_nx hO).1; have := q.1; have := q.2.1; omega
    refine Ev.aload_n (q := 15) dX12_readTerm_14 rfl rfl ?_
    refine Ev.iload_n (q := 16) dX12_readTerm_15 rfl rfl ?_
    refine cV1v (q := 19) (d' := D + 7) dX12_readTerm_16 mlX12_140 moX12_readAtom mvX12_readAtom k211 rfl rfl rfl (Nat.le_refl _) rfl rfl rfl (hA (D + 7) deep (nxS tx N t) (apC f0 cs0) M9 hd (by omega) hH9 (by omega)) (fun r3 m3 e3 => ?_)
    obtain ⟨M8, rfl⟩ : ∃ M8, M8 = m3 := ⟨_, rfl⟩
    obtain ⟨x8, f8⟩ := e3
    cases hx : psR tx N law n 4 deep (nxS tx N t) with
    | inl e =>
      rw [hx] at x8
      have x8 : BDm M8 e := x8
      refine Ev.aload_n (q := 20) dX12_readTerm_19 rfl rfl ?_
      refine Ev.sipush (q := 23) dX12_readTerm_20 kh_3002 rfl ?_
      refine cV1v (q := 26) (d' := D + 7) dX12_readTerm_23 mlX12_125 moX12_codes mvX12_codes k211 rfl rfl rfl (Nat.le_refl _) rfl rfl rfl (p_X12_codes_bd e 3002 x8) (fun r31 m31 e31 => ?_)
      obtain rfl := (show _ = _ from e31).symm
      refine Ev.goto (q := 5) dX12_readTerm_26 (by decide) ?_
      refine Ev.aload_n (q := 6) dX12_readTerm_5 rfl rfl ?_
      refine Ev.bipush (q := 8) dX12_readTerm_6 kb_34 rfl ?_
      refine cV1i (q := 11) (d' := D + 7) dX12_readTerm_8 mlX12_137 moX12_eats mvX12_eats k211 rfl rfl rfl (Nat.le_refl _) rfl rfl rfl (p_X12_eats_bd e 34 x8) (fun r32 m32 e32 => ?_)
      obtain ⟨rfl, e32⟩ := e32
      obtain rfl := e32.symm
      refine Ev.if_eq (tgt := 29) (q := 14) dX12_readTerm_11 (by decide) rfl (fun h33 => ?_) (fun h33 => ?_)
      · skip
        refine rV dX12_readTerm_29 rfl ?_
        have hps : psR tx N law (n + 1) 3 deep t = .inl e := by rw [ps3, if_pos h34, bE_l hx]
        rw [hps]
        exact ⟨x8, hF.tr (f9.tr f8)⟩
      · skip
        omega
    | inr a =>
      rw [hx] at x8
      have x8 : OKm M8 a.2 (apC (apC f0 cs0) a.1) := x8
      obtain ⟨q1, q2, q3⟩ := ps_len n 4 deep (nxS tx N t) a.1 a.2 (by omega) hH9.2.1 (by simp; omega) hx
      have q3' := q3 (by decide)
      have hle2 : a.2.2.1 ≤ N := by have := q1.1; have := q1.2.1; omega
      refine Ev.aload_n (q := 20) dX12_readTerm_19 rfl rfl ?_
      refine Ev.sipush (q := 23) dX12_readTerm_20 kh_3002 rfl ?_
      refine cV1v (q := 26) (d' := D + 7) dX12_readTerm_23 mlX12_125 moX12_codes mvX12_codes k211 rfl rfl rfl (Nat.le_refl _) rfl rfl rfl (p_X12_codes a.2 (apC (apC f0 cs0) a.1) 3002 ((apC f0 cs0) 457 + a.1.length).toNat x8 (by rw [apC_457]; omega) (by omega)) (fun r31 m31 e31 => ?_)
      obtain ⟨M7, rfl⟩ : ∃ M7, M7 = m31 := ⟨_, rfl⟩
      obtain ⟨x7, f7⟩ := e31
      refine Ev.goto (q := 5) dX12_readTerm_26 (by decide) ?_
      have hrow : apC (apC (apC f0 cs0) a.1) [3002] = apC f0 (cs0 ++ (a.1 ++ [3002])) := by rw [apC_app, apC_app]
      rw [hrow] at x7
      have h7 := hL (D + 8) deep a.2 f0 (cs0 ++ (a.1 ++ [3002])) m0 M7 hd (by omega) ⟨((hX9.q f8).q f7), q1, x7, by rw [f7.q15, f8.q15, f9.q15]; exact h15, by rw [← hrow, apC_457, apC_457]; show 0 ≤ (apC f0 cs0) 457 + (a.1.length : Int) + ((1 : Nat) : Int); omega, by rw [← hrow, apC_457, apC_457]; show (apC f0 cs0) 457 + (a.1.length : Int) + ((1 : Nat) : Int) ≤ _; omega⟩ (by omega) (hF.tr (f9.tr (f8.tr f7)))
      have hps : (bE (psR tx N law (n + 1) 3 deep t) fun b => (.inr (cs0 ++ b.1, b.2) : Er (List Int × Tok))) = bE (psR tx N law n 3 deep a.2) fun b => .inr (cs0 ++ (a.1 ++ [3002]) ++ b.1, b.2) := by
        rw [ps3, if_pos h34, bE_r hx, bE_a]
        congr 1
        funext b
        show (.inr (cs0 ++ (a.1 ++ (3002 :: b.1)), b.2) : Er (List Int × Tok)) = .inr (cs0 ++ (a.1 ++ [3002]) ++ b.1, b.2)
        simp
      rw [hps]
      exact h7
set_option maxRecDepth 4000 in
theorem term_s {Γ : Gm} {tx : Nat → Int} {N law n : Nat} (hN : N ≤ 900) (hlaw : law < 2) (hA : AtomC Γ tx N law n) (hL : TermL Γ tx N law n) : TermC Γ tx N law (n + 1) := by
  intro D0 deep t f m hd hD hH hn
  obtain ⟨D, rfl⟩ : ∃ D, D0 = D + 8 := ⟨D0 - 8, by omega⟩
  obtain ⟨hX, hO, h, h15, hf0, hfl⟩ := hH
  have hle : t.2.1 ≤ N := by have := hO.1; have := hO.2.1; omega
  refine Ci.of moX12_readTerm rfl rfl (fun hA9 hM => ?_)
  show Em Γ (D + 8) MX12_readTerm _ 0 [rv 211, iv deep] [] m
  refine Ev.aload_n (q := 1) dX12_readTerm_0 rfl rfl ?_
  refine Ev.iload_n (q := 2) dX12_readTerm_1 rfl rfl ?_
  refine cV1v (q := 5) (d' := D + 7) dX12_readTerm_2 mlX12_140 moX12_readAtom mvX12_readAtom k211 rfl rfl rfl (Nat.le_refl _) rfl rfl rfl (hA (D + 7) deep t f m hd (by omega) ⟨hX, hO, h, h15, hf0, hfl⟩ (by omega)) (fun r1 m1 e1 => ?_)
  obtain ⟨M8, rfl⟩ : ∃ M8, M8 = m1 := ⟨_, rfl⟩
  obtain ⟨x8, f8⟩ := e1
  cases hx : psR tx N law n 4 deep t with
  | inl e =>
    rw [hx] at x8
    have x8 : BDm M8 e := x8
    refine Ev.aload_n (q := 6) dX12_readTerm_5 rfl rfl ?_
    refine Ev.bipush (q := 8) dX12_readTerm_6 kb_34 rfl ?_
    refine cV1i (q := 11) (d' := D + 7) dX12_readTerm_8 mlX12_137 moX12_eats mvX12_eats k211 rfl rfl rfl (Nat.le_refl _) rfl rfl rfl (p_X12_eats_bd e 34 x8) (fun r31 m31 e31 => ?_)
    obtain ⟨rfl, e31⟩ := e31
    obtain rfl := e31.symm
    refine Ev.if_eq (tgt := 29) (q := 14) dX12_readTerm_11 (by decide) rfl (fun h32 => ?_) (fun h32 => ?_)
    · skip
      refine rV dX12_readTerm_29 rfl ?_
      have hps : psR tx N law (n + 1) 2 deep t = .inl e := by rw [ps2, bE_l hx]
      rw [hps]
      exact ⟨x8, f8⟩
    · skip
      omega
  | inr a =>
    rw [hx] at x8
    have x8 : OKm M8 a.2 (apC f a.1) := x8
    obtain ⟨q1, q2, q3⟩ := ps_len n 4 deep t a.1 a.2 (by omega) hO (by simp; omega) hx
    have q3' := q3 (by decide)
    have hle2 : a.2.2.1 ≤ N := by have := q1.1; have := q1.2.1; omega
    have h7 := hL (D + 8) deep a.2 f a.1 m M8 hd (by omega) ⟨hX.q f8, q1, x8, by rw [f8.q15]; exact h15, by rw [apC_457]; omega, by rw [apC_457]; omega⟩ (by omega) f8
    have hps : psR tx N law (n + 1) 2 deep t = bE (psR tx N law n 3 deep a.2) fun b => .inr (a.1 ++ b.1, b.2) := by rw [ps2, bE_r hx]
    rw [hps]
    exact h7
set_option maxRecDepth 4000 in
theorem suml_s {Γ : Gm} {tx : Nat → Int} {N law n : Nat} (hN : N ≤ 900) (hlaw : law < 2) (hT : TermC Γ tx N law n) (hL : SumL Γ tx N law n) : SumL Γ tx N law (n + 1) := by
  intro D0 deep t f0 cs0 m0 m v2 hd hD hH hn hF
  obtain ⟨D, rfl⟩ : ∃ D, D0 = D + 9 := ⟨D0 - 9, by omega⟩
  obtain ⟨hX, hO, h, h15, hf0, hfl⟩ := hH
  have hle : t.2.1 ≤ N := by have := hO.1; have := hO.2.1; omega
  refine Ev.aload_n (q := 6) dX12_readSum_5 rfl rfl ?_
  refine Ev.bipush (q := 8) dX12_readSum_6 kb_32 rfl ?_
  refine cV1i (q := 11) (d' := D + 8) dX12_readSum_8 mlX12_108 moX12_is mvX12_is k211 rfl rfl rfl (Nat.le_refl _) rfl rfl rfl (p_X12_is 32) (fun r1 m1 e1 => ?_)
  obtain ⟨rfl, e1⟩ := e1
  obtain rfl := e1.symm
  rw [is_ok h]
  refine Ev.if_ne (tgt := 23) (q := 14) dX12_readSum_11 (by decide) rfl (fun h2 => ?_) (fun h2 => ?_)
  · skip
    have h32 : t.1 = 32 := by split at h2 <;> omega
    have hpm : t.1 = 32 ∨ t.1 = 33 := Or.inl h32
    refine Ev.aload_n (q := 24) dX12_readSum_23 rfl rfl ?_
    refine gI (q := 27) dX12_readSum_24 gfX12_84 k211 rfl rfl ?_
    refine Ev.bipush (q := 29) dX12_readSum_27 kb_32 rfl ?_
    rw [h.2.1.1]
    refine Ev.icmp_ne (tgt := 38) (q := 32) dX12_readSum_29 (by decide) rfl (fun h3 => ?_) (fun h3 => ?_)
    · skip
      refine Ev.sipush (q := 41) dX12_readSum_38 kh_3001 rfl ?_
      refine istore_n_2 (q := 42) dX12_readSum_41 rfl rfl rfl ?_
      omega
    · skip
      refine Ev.sipush (q := 35) dX12_readSum_32 kh_3000 rfl ?_
      refine Ev.goto (q := 41) dX12_readSum_35 (by decide) ?_
      refine istore_n_2 (q := 42) dX12_readSum_41 rfl rfl rfl ?_
      refine Ev.aload_n (q := 43) dX12_readSum_42 rfl rfl ?_
      refine cV0v (q := 46) (d' := D + 8) dX12_readSum_43 mlX12_111 moX12_next mvX12_next k211 rfl rfl rfl (Nat.le_refl _) rfl rfl rfl (p_X12_next N t.2.2.1 hN hO.2.1 hX.1 h.2.1.2.2.1) (fun r31 m31 e31 => ?_)
      obtain ⟨M9, rfl⟩ : ∃ M9, M9 = m31 := ⟨_, rfl⟩
      obtain ⟨y1, y2⟩ := e31
      rw [hX.2] at y1
      have x9 := OKm_nx h (show TkM M9 (nxS tx N t) from y1) y2
      have f9 := y2.pq
      have hX9 := hX.q f9
      have hH9 : HLw tx N law (nxS tx N t) (apC f0 cs0) M9 := HLw.nx ⟨hX, hO, h, h15, hf0, hfl⟩ (by omega) x9 f9
      have hx1 := nx_lt hO (show ¬ t.1 = 24 by omega)
      have hxN : (nxS tx N t).2.1 ≤ N := by have q := (tOK_nx hO).1; have := q.1; have := q.2.1; omega
      refine Ev.aload_n (q := 47) dX12_readSum_46 rfl rfl ?_
      refine Ev.iload_n (q := 48) dX12_readSum_47 rfl rfl ?_
      refine cV1v (q := 51) (d' := D + 8) dX12_readSum_48 mlX12_143 moX12_readTerm mvX12_readTerm k211 rfl rfl rfl (Nat.le_refl _) rfl rfl rfl (hT (D + 8) deep (nxS tx N t) (apC f0 cs0) M9 hd (by omega) hH9 (by omega)) (fun r32 m32 e32 => ?_)
      obtain ⟨M8, rfl⟩ : ∃ M8, M8 = m32 := ⟨_, rfl⟩
      obtain ⟨x8, f8⟩ := e32
      cases hx : psR tx N law n 2 deep (nxS tx N t) with
      | inl e =>
        rw [hx] at x8
        have x8 : BDm M8 e := x8
        refine Ev.aload_n (q := 52) dX12_readSum_51 rfl rfl ?_
        refine Ev.iload_n (q := 53) dX12_readSum_52 rfl rfl ?_
        refine cV1v (q := 56) (d' := D + 8) dX12_readSum_53 mlX12_125 moX12_codes mvX12_codes k211 rfl rfl rfl (Nat.le_refl _) rfl rfl rfl (p_X12_codes_bd e 3000 x8) (fun r61 m61 e61 => ?_)
        obtain rfl := (show _ = _ from e61).symm
        refine Ev.goto (q := 5) dX12_readSum_56 (by decide) ?_
        refine Ev.aload_n (q := 6) dX12_readSum_5 rfl rfl ?_
        refine Ev.bipush (q := 8) dX12_readSum_6 kb_32 rfl ?_
        refine cV1i (q := 11) (d' := D + 8) dX12_readSum_8 mlX12_108 moX12_is mvX12_is k211 rfl rfl rfl (Nat.le_refl _) rfl rfl rfl (p_X12_is 32) (fun r62 m62 e62 => ?_)
        obtain ⟨rfl, e62⟩ := e62
        obtain rfl := e62.symm
        rw [is_bd x8]
        refine Ev.if_ne (tgt := 23) (q := 14) dX12_readSum_11 (by decide) rfl (fun h63 => ?_) (fun h63 => ?_)
        · skip
          omega
        · skip
          refine Ev.aload_n (q := 15) dX12_readSum_14 rfl rfl ?_
          refine Ev.bipush (q := 17) dX12_readSum_15 kb_33 rfl ?_
          refine cV1i (q := 20) (d' := D + 8) dX12_readSum_17 mlX12_108 moX12_is mvX12_is k211 rfl rfl rfl (Nat.le_refl _) rfl rfl rfl (p_X12_is 33) (fun r64 m64 e64 => ?_)
          obtain ⟨rfl, e64⟩ := e64
          obtain rfl := e64.symm
          rw [is_bd x8]
          refine Ev.if_eq (tgt := 59) (q := 23) dX12_readSum_20 (by decide) rfl (fun h65 => ?_) (fun h65 => ?_)
          · skip
            refine rV dX12_readSum_59 rfl ?_
            have hps : psR tx N law (n + 1) 1 deep t = .inl e := by rw [ps1, if_pos hpm, bE_l hx]
            rw [hps]
            exact ⟨x8, hF.tr (f9.tr f8)⟩
          · skip
            omega
      | inr a =>
        rw [hx] at x8
        have x8 : OKm M8 a.2 (apC (apC f0 cs0) a.1) := x8
        obtain ⟨q1, q2, q3⟩ := ps_len n 2 deep (nxS tx N t) a.1 a.2 (by omega) hH9.2.1 (by simp; omega) hx
        have q3' := q3 (by decide)
        have hle2 : a.2.2.1 ≤ N := by have := q1.1; have := q1.2.1; omega
        refine Ev.aload_n (q := 52) dX12_readSum_51 rfl rfl ?_
        refine Ev.iload_n (q := 53) dX12_readSum_52 rfl rfl ?_
        refine cV1v (q := 56) (d' := D + 8) dX12_readSum_53 mlX12_125 moX12_codes mvX12_codes k211 rfl rfl rfl (Nat.le_refl _) rfl rfl rfl (p_X12_codes a.2 (apC (apC f0 cs0) a.1) 3000 ((apC f0 cs0) 457 + a.1.length).toNat x8 (by rw [apC_457]; omega) (by omega)) (fun r61 m61 e61 => ?_)
        obtain ⟨M7, rfl⟩ : ∃ M7, M7 = m61 := ⟨_, rfl⟩
        obtain ⟨x7, f7⟩ := e61
        refine Ev.goto (q := 5) dX12_readSum_56 (by decide) ?_
        have hrow : apC (apC (apC f0 cs0) a.1) [3000] = apC f0 (cs0 ++ (a.1 ++ [3000])) := by rw [apC_app, apC_app]
        rw [hrow] at x7
        have h7 := hL (D + 9) deep a.2 f0 (cs0 ++ (a.1 ++ [3000])) m0 M7 (iv 3000) hd (by omega) ⟨((hX9.q f8).q f7), q1, x7, by rw [f7.q15, f8.q15, f9.q15]; exact h15, by rw [← hrow, apC_457, apC_457]; show 0 ≤ (apC f0 cs0) 457 + (a.1.length : Int) + ((1 : Nat) : Int); omega, by rw [← hrow, apC_457, apC_457]; show (apC f0 cs0) 457 + (a.1.length : Int) + ((1 : Nat) : Int) ≤ _; omega⟩ (by omega) (hF.tr (f9.tr (f8.tr f7)))
        have hps : (bE (psR tx N law (n + 1) 1 deep t) fun b => (.inr (cs0 ++ b.1, b.2) : Er (List Int × Tok))) = bE (psR tx N law n 1 deep a.2) fun b => .inr (cs0 ++ (a.1 ++ [3000]) ++ b.1, b.2) := by
          rw [ps1, if_pos hpm, bE_r hx, bE_a]
          congr 1
          funext b
          rw [if_pos h32]
          show (.inr (cs0 ++ (a.1 ++ (3000 :: b.1)), b.2) : Er (List Int × Tok)) = .inr (cs0 ++ (a.1 ++ [3000]) ++ b.1, b.2)
          simp
        rw [hps]
        exact h7
  · skip
    have h32 : ¬ t.1 = 32 := by split at h2 <;> omega
    refine Ev.aload_n (q := 15) dX12_readSum_14 rfl rfl ?_
    refine Ev.bipush (q := 17) dX12_readSum_15 kb_33 rfl ?_
    refine cV1i (q := 20) (d' := D + 8) dX12_readSum_17 mlX12_108 moX12_is mvX12_is k211 rfl rfl rfl (Nat.le_refl _) rfl rfl rfl (p_X12_is 33) (fun r4 m4 e4 => ?_)
    obtain ⟨rfl, e4⟩ := e4
    obtain rfl := e4.symm
    rw [is_ok h]
    refine Ev.if_eq (tgt := 59) (q := 23) dX12_readSum_20 (by decide) rfl (fun h5 => ?_) (fun h5 => ?_)
    · skip
      have hpm : ¬ (t.1 = 32 ∨ t.1 = 33) := by split at h5 <;> omega
      refine rV dX12_readSum_59 rfl ?_
      have hps : psR tx N law (n + 1) 1 deep t = .inr ([], t) := by rw [ps1, if_neg hpm]
      rw [hps]
      exact ⟨by show OKm m t (apC f0 (cs0 ++ [])); rw [List.append_nil]; exact h, hF⟩
    · skip
      have h33 : t.1 = 33 := by split at h5 <;> omega
      have hpm : t.1 = 32 ∨ t.1 = 33 := Or.inr h33
      refine Ev.aload_n (q := 24) dX12_readSum_23 rfl rfl ?_
      refine gI (q := 27) dX12_readSum_24 gfX12_84 k211 rfl rfl ?_
      refine Ev.bipush (q := 29) dX12_readSum_27 kb_32 rfl ?_
      rw [h.2.1.1]
      refine Ev.icmp_ne (tgt := 38) (q := 32) dX12_readSum_29 (by decide) rfl (fun h6 => ?_) (fun h6 => ?_)
      · skip
        refine Ev.sipush (q := 41) dX12_readSum_38 kh_3001 rfl ?_
        refine istore_n_2 (q := 42) dX12_readSum_41 rfl rfl rfl ?_
        refine Ev.aload_n (q := 43) dX12_readSum_42 rfl rfl ?_
        refine cV0v (q := 46) (d' := D + 8) dX12_readSum_43 mlX12_111 moX12_next mvX12_next k211 rfl rfl rfl (Nat.le_refl _) rfl rfl rfl (p_X12_next N t.2.2.1 hN hO.2.1 hX.1 h.2.1.2.2.1) (fun r31 m31 e31 => ?_)
        obtain ⟨M9, rfl⟩ : ∃ M9, M9 = m31 := ⟨_, rfl⟩
        obtain ⟨y1, y2⟩ := e31
        rw [hX.2] at y1
        have x9 := OKm_nx h (show TkM M9 (nxS tx N t) from y1) y2
        have f9 := y2.pq
        have hX9 := hX.q f9
        have hH9 : HLw tx N law (nxS tx N t) (apC f0 cs0) M9 := HLw.nx ⟨hX, hO, h, h15, hf0, hfl⟩ (by omega) x9 f9
        have hx1 := nx_lt hO (show ¬ t.1 = 24 by omega)
        have hxN : (nxS tx N t).2.1 ≤ N := by have q := (tOK_nx hO).1; have := q.1; have := q.2.1; omega
        refine Ev.aload_n (q := 47) dX12_readSum_46 rfl rfl ?_
        refine Ev.iload_n (q := 48) dX12_readSum_47 rfl rfl ?_
        refine cV1v (q := 51) (d' := D + 8) dX12_readSum_48 mlX12_143 moX12_readTerm mvX12_readTerm k211 rfl rfl rfl (Nat.le_refl _) rfl rfl rfl (hT (D + 8) deep (nxS tx N t) (apC f0 cs0) M9 hd (by omega) hH9 (by omega)) (fun r32 m32 e32 => ?_)
        obtain ⟨M8, rfl⟩ : ∃ M8, M8 = m32 := ⟨_, rfl⟩
        obtain ⟨x8, f8⟩ := e32
        cases hx : psR tx N law n 2 deep (nxS tx N t) with
        | inl e =>
          rw [hx] at x8
          have x8 : BDm M8 e := x8
          refine Ev.aload_n (q := 52) dX12_readSum_51 rfl rfl ?_
          refine Ev.iload_n (q := 53) dX12_readSum_52 rfl rfl ?_
          refine cV1v (q := 56) (d' := D + 8) dX12_readSum_53 mlX12_125 moX12_codes mvX12_codes k211 rfl rfl rfl (Nat.le_refl _) rfl rfl rfl (p_X12_codes_bd e 3001 x8) (fun r61 m61 e61 => ?_)
          obtain rfl := (show _ = _ from e61).symm
          refine Ev.goto (q := 5) dX12_readSum_56 (by decide) ?_
          refine Ev.aload_n (q := 6) dX12_readSum_5 rfl rfl ?_
          refine Ev.bipush (q := 8) dX12_readSum_6 kb_32 rfl ?_
          refine cV1i (q := 11) (d' := D + 8) dX12_readSum_8 mlX12_108 moX12_is mvX12_is k211 rfl rfl rfl (Nat.le_refl _) rfl rfl rfl (p_X12_is 32) (fun r62 m62 e62 => ?_)
          obtain ⟨rfl, e62⟩ := e62
          obtain rfl := e62.symm
          rw [is_bd x8]
          refine Ev.if_ne (tgt := 23) (q := 14) dX12_readSum_11 (by decide) rfl (fun h63 => ?_) (fun h63 => ?_)
          · skip
            omega
          · skip
            refine Ev.aload_n (q := 15) dX12_readSum_14 rfl rfl ?_
            refine Ev.bipush (q := 17) dX12_readSum_15 kb_33 rfl ?_
            refine cV1i (q := 20) (d' := D + 8) dX12_readSum_17 mlX12_108 moX12_is mvX12_is k211 rfl rfl rfl (Nat.le_refl _) rfl rfl rfl (p_X12_is 33) (fun r64 m64 e64 => ?_)
            obtain ⟨rfl, e64⟩ := e64
            obtain rfl := e64.symm
            rw [is_bd x8]
            refine Ev.if_eq (tgt := 59) (q := 23) dX12_readSum_20 (by decide) rfl (fun h65 => ?_) (fun h65 => ?_)
            · skip
              refine rV dX12_readSum_59 rfl ?_
              have hps : psR tx N law (n + 1) 1 deep t = .inl e := by rw [ps1, if_pos hpm, bE_l hx]
              rw [hps]
              exact ⟨x8, hF.tr (f9.tr f8)⟩
            · skip
              omega
        | inr a =>
          rw [hx] at x8
          have x8 : OKm M8 a.2 (apC (apC f0 cs0) a.1) := x8
          obtain ⟨q1, q2, q3⟩ := ps_len n 2 deep (nxS tx N t) a.1 a.2 (by omega) hH9.2.1 (by simp; omega) hx
          have q3' := q3 (by decide)
          have hle2 : a.2.2.1 ≤ N := by have := q1.1; have := q1.2.1; omega
          refine Ev.aload_n (q := 52) dX12_readSum_51 rfl rfl ?_
          refine Ev.iload_n (q := 53) dX12_readSum_52 rfl rfl ?_
          refine cV1v (q := 56) (d' := D + 8) dX12_readSum_53 mlX12_125 moX12_codes mvX12_codes k211 rfl rfl rfl (Nat.le_refl _) rfl rfl rfl (p_X12_codes a.2 (apC (apC f0 cs0) a.1) 3001 ((apC f0 cs0) 457 + a.1.length).toNat x8 (by rw [apC_457]; omega) (by omega)) (fun r61 m61 e61 => ?_)
          obtain ⟨M7, rfl⟩ : ∃ M7, M7 = m61 := ⟨_, rfl⟩
          obtain ⟨x7, f7⟩ := e61
          refine Ev.goto (q := 5) dX12_readSum_56 (by decide) ?_
          have hrow : apC (apC (apC f0 cs0) a.1) [3001] = apC f0 (cs0 ++ (a.1 ++ [3001])) := by rw [apC_app, apC_app]
          rw [hrow] at x7
          have h7 := hL (D + 9) deep a.2 f0 (cs0 ++ (a.1 ++ [3001])) m0 M7 (iv 3001) hd (by omega) ⟨((hX9.q f8).q f7), q1, x7, by rw [f7.q15, f8.q15, f9.q15]; exact h15, by rw [← hrow, apC_457, apC_457]; show 0 ≤ (apC f0 cs0) 457 + (a.1.length : Int) + ((1 : Nat) : Int); omega, by rw [← hrow, apC_457, apC_457]; show (apC f0 cs0) 457 + (a.1.length : Int) + ((1 : Nat) : Int) ≤ _; omega⟩ (by omega) (hF.tr (f9.tr (f8.tr f7)))
          have hps : (bE (psR tx N law (n + 1) 1 deep t) fun b => (.inr (cs0 ++ b.1, b.2) : Er (List Int × Tok))) = bE (psR tx N law n 1 deep a.2) fun b => .inr (cs0 ++ (a.1 ++ [3001]) ++ b.1, b.2) := by
            rw [ps1, if_pos hpm, bE_r hx, bE_a]
            congr 1
            funext b
            rw [if_neg h32]
            show (.inr (cs0 ++ (a.1 ++ (3001 :: b.1)), b.2) : Er (List Int × Tok)) = .inr (cs0 ++ (a.1 ++ [3001]) ++ b.1, b.2)
            simp
          rw [hps]
          exact h7
      · skip
        refine Ev.sipush (q := 35) dX12_readSum_32 kh_3000 rfl ?_
        refine Ev.goto (q := 41) dX12_readSum_35 (by decide) ?_
        refine istore_n_2 (q := 42) dX12_readSum_41 rfl rfl rfl ?_
        omega
set_option maxRecDepth 4000 in
theorem sum_s {Γ : Gm} {tx : Nat → Int} {N law n : Nat} (hN : N ≤ 900) (hlaw : law < 2) (hT : TermC Γ tx N law n) (hL : SumL Γ tx N law n) : SumC Γ tx N law (n + 1) := by
  intro D0 deep t f m hd hD hH hn
  obtain ⟨D, rfl⟩ : ∃ D, D0 = D + 9 := ⟨D0 - 9, by omega⟩
  obtain ⟨hX, hO, h, h15, hf0, hfl⟩ := hH
  have hle : t.2.1 ≤ N := by have := hO.1; have := hO.2.1; omega
  refine Ci.of moX12_readSum rfl rfl (fun hA9 hM => ?_)
  show Em Γ (D + 9) MX12_readSum _ 0 [rv 211, iv deep, uv] [] m
  refine Ev.aload_n (q := 1) dX12_readSum_0 rfl rfl ?_
  refine Ev.iload_n (q := 2) dX12_readSum_1 rfl rfl ?_
  refine cV1v (q := 5) (d' := D + 8) dX12_readSum_2 mlX12_143 moX12_readTerm mvX12_readTerm k211 rfl rfl rfl (Nat.le_refl _) rfl rfl rfl (hT (D + 8) deep t f m hd (by omega) ⟨hX, hO, h, h15, hf0, hfl⟩ (by omega)) (fun r1 m1 e1 => ?_)
  obtain ⟨M8, rfl⟩ : ∃ M8, M8 = m1 := ⟨_, rfl⟩
  obtain ⟨x8, f8⟩ := e1
  cases hx : psR tx N law n 2 deep t with
  | inl e =>
    rw [hx] at x8
    have x8 : BDm M8 e := x8
    refine Ev.aload_n (q := 6) dX12_readSum_5 rfl rfl ?_
    refine Ev.bipush (q := 8) dX12_readSum_6 kb_32 rfl ?_
    refine cV1i (q := 11) (d' := D + 8) dX12_readSum_8 mlX12_108 moX12_is mvX12_is k211 rfl rfl rfl (Nat.le_refl _) rfl rfl rfl (p_X12_is 32) (fun r31 m31 e31 => ?_)
    obtain ⟨rfl, e31⟩ := e31
    obtain rfl := e31.symm
    rw [is_bd x8]
    refine Ev.if_ne (tgt := 23) (q := 14) dX12_readSum_11 (by decide) rfl (fun h32 => ?_) (fun h32 => ?_)
    · skip
      omega
    · skip
      refine Ev.aload_n (q := 15) dX12_readSum_14 rfl rfl ?_
      refine Ev.bipush (q := 17) dX12_readSum_15 kb_33 rfl ?_
      refine cV1i (q := 20) (d' := D + 8) dX12_readSum_17 mlX12_108 moX12_is mvX12_is k211 rfl rfl rfl (Nat.le_refl _) rfl rfl rfl (p_X12_is 33) (fun r33 m33 e33 => ?_)
      obtain ⟨rfl, e33⟩ := e33
      obtain rfl := e33.symm
      rw [is_bd x8]
      refine Ev.if_eq (tgt := 59) (q := 23) dX12_readSum_20 (by decide) rfl (fun h34 => ?_) (fun h34 => ?_)
      · skip
        refine rV dX12_readSum_59 rfl ?_
        have hps : psR tx N law (n + 1) 0 deep t = .inl e := by rw [ps0, bE_l hx]
        rw [hps]
        exact ⟨x8, f8⟩
      · skip
        omega
  | inr a =>
    rw [hx] at x8
    have x8 : OKm M8 a.2 (apC f a.1) := x8
    obtain ⟨q1, q2, q3⟩ := ps_len n 2 deep t a.1 a.2 (by omega) hO (by simp; omega) hx
    have q3' := q3 (by decide)
    have hle2 : a.2.2.1 ≤ N := by have := q1.1; have := q1.2.1; omega
    have h7 := hL (D + 9) deep a.2 f a.1 m M8 uv hd (by omega) ⟨hX.q f8, q1, x8, by rw [f8.q15]; exact h15, by rw [apC_457]; omega, by rw [apC_457]; omega⟩ (by omega) f8
    have hps : psR tx N law (n + 1) 0 deep t = bE (psR tx N law n 1 deep a.2) fun b => .inr (a.1 ++ b.1, b.2) := by rw [ps0, bE_r hx]
    rw [hps]
    exact h7
theorem law_all {Γ : Gm} {tx : Nat → Int} {N law : Nat} (hN : N ≤ 900) (hlaw : law < 2) : ∀ n, AtomC Γ tx N law n ∧ TermC Γ tx N law n ∧ SumC Γ tx N law n ∧ TermL Γ tx N law n ∧ SumL Γ tx N law n := by
  intro n
  induction n with
  | zero => exact ⟨fun _ _ _ _ _ _ _ _ h => absurd h (by omega), fun _ _ _ _ _ _ _ _ h => absurd h (by omega), fun _ _ _ _ _ _ _ _ h => absurd h (by omega), fun _ _ _ _ _ _ _ _ _ _ h => absurd h (by omega), fun _ _ _ _ _ _ _ _ _ _ _ h => absurd h (by omega)⟩
  | succ n ih =>
    obtain ⟨h1, h2, h3, h4, h5⟩ := ih
    exact ⟨atom_s hN hlaw h3, term_s hN hlaw h1 h4, sum_s hN hlaw h2 h5, terml_s hN hlaw h1 h4, suml_s hN hlaw h2 h5⟩
