/-! ===== the class: calls, ends of lines ===== -/
set_option maxRecDepth 4000 in
theorem p_X6_readCalls {Γ : Gm} {d : Nat} {m : Mem} (tx : Nat → Int) (N : Nat) (t : Tok) (f : Row) (hN : N ≤ 900) (hC : TC m tx N) (hT9 : tT tx N t) (h : OKc m t) (hR : RC m f (f 2).toNat (f 3).toNat) (hRI : RI f) (hZ : ZI f) : Ci Γ (d + 7) MX6_readCalls [rv 2] m (fun r m' => PMe m' (caS tx N t f) ∧ Fr sPc m m') := by
  refine Ci.of moX6_readCalls rfl rfl (fun hA hM => ?_)
  show Em Γ (d + 7) MX6_readCalls _ 0 [rv 2, uv] [] m
  obtain ⟨hR1, hR2, hR3⟩ := hRI
  have hRI : RI f := ⟨hR1, hR2, hR3⟩
  refine Ev.aload_n (q := 1) dX6_readCalls_0 rfl rfl ?_
  refine gR (q := 4) dX6_readCalls_1 gfX6_35 k2 r2_4 rfl rfl ?_
  refine cV0v (q := 7) (d' := d + 6) dX6_readCalls_4 mlX6_132 moX8_next mvX8_next k22 rfl rfl rfl (Nat.le_refl _) rfl rfl rfl (p_X8_next tx N t.2.2.1 hN hC hT9.ok.2.1 h.2.2.2.1) (fun r1 m1 e1 => ?_)
  obtain ⟨M9, rfl⟩ : ∃ M9, M9 = m1 := ⟨_, rfl⟩
  obtain ⟨y1, y2⟩ := e1
  have x9 : OKc M9 (nxS tx N t) := OKc_nx h.1 y1 y2
  have f9 := y2.tf
  have hC9 := hC.f f9
  have hR9 := hR.tf f9
  have hT99 := hT9.nx
  refine Ev.aload_n (q := 8) dX6_readCalls_7 rfl rfl ?_
  refine Ev.iconst (q := 9) dX6_readCalls_8 ki_0 rfl ?_
  refine Ev.aload_n (q := 10) dX6_readCalls_9 rfl rfl ?_
  refine gR (q := 13) dX6_readCalls_10 gfX6_12 k2 r2_0 rfl rfl ?_
  refine gI (q := 16) dX6_readCalls_13 gfX6_73 k3 rfl rfl ?_
  first | rw [hR9.1.1] | rw [hR9.1.1.1]
  refine Ev.iconst (q := 17) dX6_readCalls_16 ki_1 rfl ?_
  refine Ev.isub (q := 18) dX6_readCalls_17 rfl ?_
  rw [w32_of (by omega) (by omega)]
  refine cV2i (q := 21) (d' := d + 6) dX6_readCalls_18 mlX6_69 moX6_expectNumber mvX6_expectNumber k2 rfl rfl rfl (Nat.le_refl _) rfl rfl rfl (p_X6_expectNumber tx N (nxS tx N t) 0 (f 1 - 1) hN hC9 hT99 x9) (fun r2 m2 e2 => ?_)
  obtain ⟨M8, rfl⟩ : ∃ M8, M8 = m2 := ⟨_, rfl⟩
  obtain ⟨x8, f8⟩ := e2
  have hR8 := hR9.tf f8
  cases hx : nuS tx N 0 (f 1 - 1) (nxS tx N t) with
  | inl e =>
    rw [hx] at x8
    obtain ⟨xr, x8⟩ : _ = 0 ∧ BDc M8 e := x8
    rw [xr]
    refine istore_n_1 (q := 22) dX6_readCalls_21 rfl rfl rfl ?_
    refine Ev.aload_n (q := 23) dX6_readCalls_22 rfl rfl ?_
    refine Ev.ldcS (q := 25) dX6_readCalls_23 (i := 18) rfl rfl ?_
    refine cV1v (q := 28) (d' := d + 6) dX6_readCalls_25 mlX6_65 moX6_expectWord mvX6_expectWord k2 rfl rfl rfl (Nat.le_refl _) rfl rfl rfl (p_X6_expectWord_bd _ 18 x8) (fun r61 m61 e61 => ?_)
    obtain rfl := (show _ = _ from e61).symm
    refine Ev.aload_n (q := 29) dX6_readCalls_28 rfl rfl ?_
    refine gR (q := 32) dX6_readCalls_29 gfX6_12 k2 r2_0 rfl rfl ?_
    refine gR (q := 35) dX6_readCalls_32 gfX6_209 k3 r3_4 rfl rfl ?_
    refine Ev.iload_n (q := 36) dX6_readCalls_35 rfl rfl ?_
    refine Ev.aload_n (q := 37) dX6_readCalls_36 rfl rfl ?_
    refine Ev.iconst (q := 38) dX6_readCalls_37 ki_0 rfl ?_
    refine Ev.bipush (q := 40) dX6_readCalls_38 kb_99 rfl ?_
    refine cV2i (q := 43) (d' := d + 6) dX6_readCalls_40 mlX6_69 moX6_expectNumber mvX6_expectNumber k2 rfl rfl rfl (Nat.le_refl _) rfl rfl rfl (p_X6_expectNumber_bd _ _ _ x8) (fun r62 m62 e62 => ?_)
    obtain ⟨rfl, e62⟩ := e62
    obtain rfl := e62.symm
    refine sI (q := 44) (k := 0) dX6_readCalls_43 k4 (by rfl) (by decide) rfl ?_
    refine rV dX6_readCalls_44 rfl ?_
    unfold caS
    rw [bE_l hx]
    exact ⟨x8.up _ _ (by decide), ((f9.tr f8).pc).up (pc_t (by omega))⟩
  | inr a =>
    rw [hx] at x8
    obtain ⟨xr, x8⟩ : _ = a.1 ∧ OKc M8 a.2 := x8
    obtain ⟨n1, n2, n3, n5, hle2⟩ := nu_T hT99 hx
    rw [xr]
    rw [show a.1 = ((a.1.toNat : Nat) : Int) by omega]
    refine istore_n_1 (q := 22) dX6_readCalls_21 rfl rfl rfl ?_
    refine Ev.aload_n (q := 23) dX6_readCalls_22 rfl rfl ?_
    refine Ev.ldcS (q := 25) dX6_readCalls_23 (i := 18) rfl rfl ?_
    refine cV1v (q := 28) (d' := d + 6) dX6_readCalls_25 mlX6_65 moX6_expectWord mvX6_expectWord k2 rfl rfl rfl (Nat.le_refl _) rfl rfl rfl (p_X6_expectWord tx N a.2 18 hN (hC9.f f8) n3 x8 (by decide)) (fun r51 m51 e51 => ?_)
    obtain ⟨M7, rfl⟩ : ∃ M7, M7 = m51 := ⟨_, rfl⟩
    obtain ⟨x7, f7⟩ := e51
    have hC7 := (hC9.f f8).f f7
    have hR7 := hR8.tf f7
    have x7 : PTc M7 (eaS tx N 16 a.2) := x7
    cases hea : eaS tx N 16 a.2 with
    | inl e =>
      rw [hea] at x7
      have x7 : BDc M7 e := x7
      refine Ev.aload_n (q := 29) dX6_readCalls_28 rfl rfl ?_
      refine gR (q := 32) dX6_readCalls_29 gfX6_12 k2 r2_0 rfl rfl ?_
      refine gR (q := 35) dX6_readCalls_32 gfX6_209 k3 r3_4 rfl rfl ?_
      refine Ev.iload_n (q := 36) dX6_readCalls_35 rfl rfl ?_
      refine Ev.aload_n (q := 37) dX6_readCalls_36 rfl rfl ?_
      refine Ev.iconst (q := 38) dX6_readCalls_37 ki_0 rfl ?_
      refine Ev.bipush (q := 40) dX6_readCalls_38 kb_99 rfl ?_
      refine cV2i (q := 43) (d' := d + 6) dX6_readCalls_40 mlX6_69 moX6_expectNumber mvX6_expectNumber k2 rfl rfl rfl (Nat.le_refl _) rfl rfl rfl (p_X6_expectNumber_bd _ _ _ x7) (fun r61 m61 e61 => ?_)
      obtain ⟨rfl, e61⟩ := e61
      obtain rfl := e61.symm
      refine sI (q := 44) (k := a.1.toNat) dX6_readCalls_43 k4 (by first | rfl | omega | (simp (disch := omega) only [w32_of]; omega)) (by omega) rfl ?_
      refine rV dX6_readCalls_44 rfl ?_
      unfold caS
      rw [bE_r hx, bE_l hea]
      exact ⟨x7.up _ _ (by decide), ((f9.tr (f8.tr f7)).pc).up (pc_t (by omega))⟩
    | inr t1 =>
      rw [hea] at x7
      have x7 : OKc M7 t1 := x7
      obtain ⟨q1, q2, q3, q4⟩ := ea_T n3 (by decide) hea
      refine Ev.aload_n (q := 29) dX6_readCalls_28 rfl rfl ?_
      refine gR (q := 32) dX6_readCalls_29 gfX6_12 k2 r2_0 rfl rfl ?_
      refine gR (q := 35) dX6_readCalls_32 gfX6_209 k3 r3_4 rfl rfl ?_
      refine Ev.iload_n (q := 36) dX6_readCalls_35 rfl rfl ?_
      refine Ev.aload_n (q := 37) dX6_readCalls_36 rfl rfl ?_
      refine Ev.iconst (q := 38) dX6_readCalls_37 ki_0 rfl ?_
      refine Ev.bipush (q := 40) dX6_readCalls_38 kb_99 rfl ?_
      refine cV2i (q := 43) (d' := d + 6) dX6_readCalls_40 mlX6_69 moX6_expectNumber mvX6_expectNumber k2 rfl rfl rfl (Nat.le_refl _) rfl rfl rfl (p_X6_expectNumber tx N t1 0 99 hN hC7 q2 x7) (fun r61 m61 e61 => ?_)
      obtain ⟨M6, rfl⟩ : ∃ M6, M6 = m61 := ⟨_, rfl⟩
      obtain ⟨x6, f6⟩ := e61
      have hR6 := hR7.tf f6
      cases hy : nuS tx N 0 99 t1 with
      | inl e =>
        rw [hy] at x6
        obtain ⟨xs, x6⟩ : _ = 0 ∧ BDc M6 e := x6
        rw [xs]
        refine sI (q := 44) (k := a.1.toNat) dX6_readCalls_43 k4 (by first | rfl | omega | (simp (disch := omega) only [w32_of]; omega)) (by omega) rfl ?_
        refine rV dX6_readCalls_44 rfl ?_
        unfold caS
        rw [bE_r hx, bE_r hea, bE_l hy]
        exact ⟨x6.up _ _ (by decide), ((f9.tr (f8.tr (f7.tr f6))).pc).up (pc_t (by omega))⟩
      | inr b =>
        rw [hy] at x6
        obtain ⟨xs, x6⟩ : _ = b.1 ∧ OKc M6 b.2 := x6
        rw [xs]
        refine sI (q := 44) (k := a.1.toNat) dX6_readCalls_43 k4 (by first | rfl | omega | (simp (disch := omega) only [w32_of]; omega)) (by omega) rfl ?_
        refine rV dX6_readCalls_44 rfl ?_
        unfold caS
        rw [bE_r hx, bE_r hea, bE_r hy]
        refine ⟨⟨x6.up _ _ (by decide), ?_⟩, ((f9.tr (f8.tr (f7.tr f6))).pc).up (pc_t (by omega))⟩
        dsimp only
        rw [upg_ne _ _ (by omega), upg_ne _ _ (by omega)]
        exact RC_4 hR6 (by omega) (by omega) (by omega) _
set_option maxRecDepth 4000 in
theorem p_X6_endLine {Γ : Gm} {d : Nat} {m : Mem} (tx : Nat → Int) (N : Nat) (t : Tok) (f : Row) (hN : N ≤ 900) (hC : TC m tx N) (hT9 : tT tx N t) (h : OKc m t) (hR : RC m f (f 2).toNat (f 3).toNat) (h0 : 0 ≤ f 0 ∧ f 0 ≤ 2000) : Ci Γ (d + 2) MX6_endLine [rv 2] m (fun r m' => PMe m' (enS tx N t f) ∧ Fr sPc m m') := by
  refine Ci.of moX6_endLine rfl rfl (fun hA hM => ?_)
  show Em Γ (d + 2) MX6_endLine _ 0 [rv 2] [] m
  refine Ev.aload_n (q := 1) dX6_endLine_0 rfl rfl ?_
  refine Ev.bipush (q := 3) dX6_endLine_1 kb_59 rfl ?_
  refine cV1v (q := 6) (d' := d + 1) dX6_endLine_3 mlX6_122 moX6_expectSign mvX6_expectSign k2 rfl rfl rfl (Nat.le_refl _) rfl rfl rfl (p_X6_expectSign tx N t 59 30 hN hC hT9 h (by decide)) (fun r1 m1 e1 => ?_)
  obtain ⟨M9, rfl⟩ : ∃ M9, M9 = m1 := ⟨_, rfl⟩
  obtain ⟨x9, f9⟩ := e1
  have hR9 := hR.tf f9
  cases hea : eaS tx N 30 t with
  | inl e =>
    rw [hea] at x9
    have x9 : BDc M9 e := x9
    refine Ev.aload_n (q := 7) dX6_endLine_6 rfl rfl ?_
    refine gI (q := 10) dX6_endLine_7 gfX6_25 k2 rfl rfl ?_
    first | rw [x9.1] | rw [x9.1.1]
    refine Ev.if_ne (tgt := 26) (q := 13) dX6_endLine_10 (by decide) rfl (fun h21 => ?_) (fun h21 => ?_)
    · skip
      refine rV dX6_endLine_26 rfl ?_
      unfold enS
      rw [bE_l hea]
      exact ⟨x9, f9.pc⟩
    · skip
      exact absurd (by assumption) x9.2.1
  | inr t1 =>
    rw [hea] at x9
    have x9 : OKc M9 t1 := x9
    refine Ev.aload_n (q := 7) dX6_endLine_6 rfl rfl ?_
    refine gI (q := 10) dX6_endLine_7 gfX6_25 k2 rfl rfl ?_
    first | rw [x9.1] | rw [x9.1.1]
    refine Ev.if_ne (tgt := 26) (q := 13) dX6_endLine_10 (by decide) rfl (fun h21 => ?_) (fun h21 => ?_)
    · skip
      omega
    · skip
      refine Ev.aload_n (q := 14) dX6_endLine_13 rfl rfl ?_
      refine gR (q := 17) dX6_endLine_14 gfX6_12 k2 r2_0 rfl rfl ?_
      refine Ev.dup (q := 18) dX6_endLine_17 (fun z => by cases z) rfl ?_
      refine gI (q := 21) dX6_endLine_18 gfX6_126 k3 rfl rfl ?_
      first | rw [hR9.1.2.1] | rw [hR9.1.2.1.1]
      refine Ev.iconst (q := 22) dX6_endLine_21 ki_1 rfl ?_
      refine Ev.iadd (q := 23) dX6_endLine_22 rfl ?_
      refine pI (q := 26) dX6_endLine_23 gfX6_126 k3 rfl rfl ?_
      refine rV dX6_endLine_26 rfl ?_
      rw [w32_of (by omega) (by omega)]
      unfold enS
      rw [bE_r hea]
      refine ⟨⟨x9.up _ _ (by decide), ?_⟩, f9.pc.up (pc_t (by omega))⟩
      dsimp only
      rw [upg_ne _ _ (by decide), upg_ne _ _ (by decide)]
      exact hR9.n (k := 1) (j := 0) (by omega)
set_option maxRecDepth 4000 in
theorem p_X6_endLine_bd {Γ : Gm} {d : Nat} {m : Mem} (e : Int × Nat) (h : BDc m e) : Ci Γ (d + 1) MX6_endLine [rv 2] m (fun r m' => m' = m) := by
  refine Ci.of moX6_endLine rfl rfl (fun hA hM => ?_)
  show Em Γ (d + 1) MX6_endLine _ 0 [rv 2] [] m
  refine Ev.aload_n (q := 1) dX6_endLine_0 rfl rfl ?_
  refine Ev.bipush (q := 3) dX6_endLine_1 kb_59 rfl ?_
  refine cV1v (q := 6) (d' := d + 0) dX6_endLine_3 mlX6_122 moX6_expectSign mvX6_expectSign k2 rfl rfl rfl (Nat.le_refl _) rfl rfl rfl (p_X6_expectSign_bd e 59 h) (fun r1 m1 e1 => ?_)
  obtain rfl := (show _ = _ from e1).symm
  refine Ev.aload_n (q := 7) dX6_endLine_6 rfl rfl ?_
  refine gI (q := 10) dX6_endLine_7 gfX6_25 k2 rfl rfl ?_
  first | rw [h.1] | rw [h.1.1]
  refine Ev.if_ne (tgt := 26) (q := 13) dX6_endLine_10 (by decide) rfl (fun h2 => ?_) (fun h2 => ?_)
  · skip
    refine rV dX6_endLine_26 rfl ?_
    rfl
  · skip
    exact absurd (by assumption) h.2.1
/-! ===== the class: laws are read, step by step ===== -/
def sLa (c a k : Nat) : Bool := sTf a k || sLb c a k
theorem sLa_f {c a k : Nat} (h1 : sTf a k = false) (h2 : sLb c a k = false) : sLa c a k = false := by unfold sLa; rw [h1, h2]; rfl
theorem Fr.la1 {c : Nat} {m m' : Mem} (h : Fr sTf m m') : Fr (sLa c) m m' := h.mono (fun a k q => by unfold sLa at q; simp at q; exact q.1)
theorem Fr.la2 {c : Nat} {m m' : Mem} (h : Fr (sLb c) m m') : Fr (sLa c) m m' := h.mono (fun a k q => by unfold sLa at q; simp at q; exact q.2)
theorem LwR.tf {m m' : Mem} {c : Nat} {cs s : List Int} (hc : c = 25 ∨ c = 29) (h : LwR m c cs s) (hf : Fr sTf m m') : LwR m' c cs s := h.cod (hf c 4 (sTf_f (by omega) (by omega))) (hf.row _ (fun _ => sTf_f (by omega) (by omega))) (hf c 6 (sTf_f (by omega) (by omega))) (hf.row _ (fun _ => sTf_f (by omega) (by omega)))
theorem OKc.lb {m m' : Mem} {t : Tok} {c : Nat} (hc : c = 25 ∨ c = 29) (h : OKc m t) (hf : Fr (sLb c) m m') : OKc m' t := ⟨by rw [hf 2 2 (sLb_f (by omega)), hf 2 3 (sLb_f (by omega))]; exact h.1, by unfold TkC; rw [hf.row 22 (fun _ => sLb_f (by omega))]; exact h.2⟩
theorem BDc.lb {m m' : Mem} {e : Int × Nat} {c : Nat} (hc : c = 25 ∨ c = 29) (h : BDc m e) (hf : Fr (sLb c) m m') : BDc m' e := ⟨by rw [hf 2 2 (sLb_f (by omega))]; exact h.1, h.2.1, by rw [hf 2 3 (sLb_f (by omega))]; exact h.2.2⟩
theorem TC.lb {m m' : Mem} {tx : Nat → Int} {N c : Nat} (hc : c = 25 ∨ c = 29) (h : TC m tx N) (hf : Fr (sLb c) m m') : TC m' tx N := ⟨by rw [hf 22 0 (sLb_f (by omega))]; exact h.1, by rw [hf 22 1 (sLb_f (by omega))]; exact h.2.1, fun i hi => by rw [hf 1 i (sLb_f (by omega))]; exact h.2.2 i hi⟩
theorem BDc.n {m m' : Mem} {e : Int × Nat} (h : BDc m e) (hf : Fr sTn m m') : BDc m' e := ⟨by rw [hf 2 2 rfl]; exact h.1, h.2.1, by rw [hf 2 3 rfl]; exact h.2.2⟩
/-- a law as it is being read -/
def LI5 (m : Mem) (c : Nat) (cs s : List Int) (deep : Nat) : Prop := LwR m c cs s ∧ m c 1 = (deep : Int) ∧ m c 0 = 1
theorem LI5.tf {m m' : Mem} {c : Nat} {cs s : List Int} {deep : Nat} (hc : c = 25 ∨ c = 29) (h : LI5 m c cs s deep) (hf : Fr sTf m m') : LI5 m' c cs s deep := ⟨h.1.tf hc hf, by rw [hf c 1 (sTf_f (by omega) (by omega))]; exact h.2.1, by rw [hf c 0 (sTf_f (by omega) (by omega))]; exact h.2.2⟩
set_option maxRecDepth 4000 in
theorem p_X6_readAtom_0 {Γ : Gm} {d : Nat} {m : Mem} (tx : Nat → Int) (N : Nat) (t : Tok) (deep : Nat) (cs s : List Int) (hN : N ≤ 900) (hC : TC m tx N) (hT9 : tT tx N t) (h : OKc m t) (hI : LI5 m 25 cs s deep) (hd : deep ≤ 6) (hs : s.length ≤ 20) (hcs : cs.length + s.length < 900) : Ci Γ (d + 6) MX6_readAtom [rv 2, rv 25, iv 1] m (fun r m' => (t.1 = 35 → (deep = 6 → r = 1 ∧ BDc m' ((if t.1 = 25 then 1 else 4), t.2.1) ∧ LI5 m' 25 cs s deep) ∧ (¬ deep = 6 → r = 1 ∧ OKc m' (nxS tx N t) ∧ LI5 m' 25 cs (-14 :: s) (deep + 1))) ∧ (t.1 = 23 → r = 0 ∧ OKc m' (nxS tx N t) ∧ LI5 m' 25 (cs ++ [t.2.2.2]) s deep) ∧ (¬ t.1 = 35 → ¬ t.1 = 23 → ¬ wdV 0 t.1 = -1 → r = 0 ∧ OKc m' (nxS tx N t) ∧ LI5 m' 25 (cs ++ [codC 0 (1000 + wdV 0 t.1)]) s deep) ∧ (¬ t.1 = 35 → ¬ t.1 = 23 → wdV 0 t.1 = -1 → r = 0 ∧ BDc m' ((if t.1 = 25 then 1 else 2), t.2.1) ∧ LI5 m' 25 cs s deep) ∧ Fr (sLa 25) m m') := by
  refine Ci.of moX6_readAtom rfl rfl (fun hA hM => ?_)
  show Em Γ (d + 6) MX6_readAtom _ 0 [rv 2, rv 25, iv 1, uv] [] m
  obtain ⟨lwK, lwr2, lwr3, lwr5, lwK1, lwK2, lwK3, lwN⟩ := lawK 25 (by decide)
  have hc2 : (25 : Nat) = 25 ∨ (25 : Nat) = 29 := by decide
  obtain ⟨hw1, hw2⟩ := wc_0 t
  have hkc := kcl_w hT9.ok.2.2.2.1
  refine Ev.aload_n (q := 1) dX6_readAtom_0 rfl rfl ?_
  refine gR (q := 4) dX6_readAtom_1 gfX6_35 k2 r2_4 rfl rfl ?_
  refine Ev.bipush (q := 6) dX6_readAtom_4 kb_40 rfl ?_
  refine cV1i (q := 9) (d' := d + 5) dX6_readAtom_6 mlX6_152 moX8_isSign mvX8_isSign k22 rfl rfl rfl (Nat.le_refl _) rfl rfl rfl (p_X8_isSign tx N t 40 35 hN hC hT9 h.2 (by decide)) (fun r1 m1 e1 => ?_)
  obtain ⟨rfl, e1⟩ := e1
  obtain rfl := e1.symm
  refine Ev.if_eq (tgt := 42) (q := 12) dX6_readAtom_9 (by decide) rfl (fun h2 => ?_) (fun h2 => ?_)
  · skip
    have h35 : ¬ t.1 = 35 := by split at h2 <;> omega
    refine Ev.iload_n (q := 43) dX6_readAtom_42 rfl rfl ?_
    refine Ev.if_eq (tgt := 53) (q := 46) dX6_readAtom_43 (by decide) rfl (fun h3 => ?_) (fun h3 => ?_)
    · skip
      omega
    · skip
      refine Ev.aload_n (q := 47) dX6_readAtom_46 rfl rfl ?_
      refine cV0i (q := 50) (d' := d + 5) dX6_readAtom_47 mlX6_231 moX6_wordOfFoot mvX6_wordOfFoot k2 rfl rfl rfl (Nat.le_refl _) rfl rfl rfl (p_X6_wordOfFoot tx N t hN hC hT9 h) (fun r4 m4 e4 => ?_)
      obtain ⟨rfl, e4⟩ := e4
      obtain rfl := e4.symm
      refine Ev.goto (q := 57) dX6_readAtom_50 (by decide) ?_
      refine istore_n_3 (q := 58) dX6_readAtom_57 rfl rfl rfl ?_
      refine Ev.aload_n (q := 59) dX6_readAtom_58 rfl rfl ?_
      refine gR (q := 62) dX6_readAtom_59 gfX6_35 k2 r2_4 rfl rfl ?_
      refine gI (q := 65) dX6_readAtom_62 gfX6_79 k22 rfl rfl ?_
      first | rw [h.2.1] | rw [h.2.1.1]
      refine Ev.iconst (q := 66) dX6_readAtom_65 ki_2 rfl ?_
      refine Ev.icmp_ne (tgt := 83) (q := 69) dX6_readAtom_66 (by decide) rfl (fun h5 => ?_) (fun h5 => ?_)
      · skip
        have h23 : ¬ t.1 = 23 := by omega
        refine Ev.iload_n (q := 84) dX6_readAtom_83 rfl rfl ?_
        refine Ev.iconst (q := 85) dX6_readAtom_84 ki_m1 rfl ?_
        refine Ev.icmp_eq (tgt := 96) (q := 88) dX6_readAtom_85 (by decide) rfl (fun h6 => ?_) (fun h6 => ?_)
        · skip
          have hwd : wdV 0 t.1 = -1 := hw1.mpr (by omega)
          refine Ev.aload_n (q := 97) dX6_readAtom_96 rfl rfl ?_
          refine Ev.iconst (q := 98) dX6_readAtom_97 ki_2 rfl ?_
          refine cV1v (q := 101) (d' := d + 5) dX6_readAtom_98 mlX6_118 moX6_fail mvX6_fail k2 rfl rfl rfl (Nat.le_refl _) rfl rfl rfl (p_X6_fail tx N t 2 hT9 (by decide) h) (fun r7 m7 e7 => ?_)
          obtain ⟨M8, rfl⟩ : ∃ M8, M8 = m7 := ⟨_, rfl⟩
          obtain ⟨b1, b2, b3⟩ := e7
          have hf22 : M8 22 2 = m 22 2 := by rw [b3]
          have fk8 : M8 22 2 = m 22 2 := hf22
          have ha2 : M8 22 2 = (t.2.2.1 : Int) := by rw [fk8]; exact h.2.2.2.1
          refine Ev.aload_n (q := 102) dX6_readAtom_101 rfl rfl ?_
          refine gR (q := 105) dX6_readAtom_102 gfX6_35 k2 r2_4 rfl rfl ?_
          refine cV0v (q := 108) (d' := d + 5) dX6_readAtom_105 mlX6_132 moX8_next mvX8_next k22 rfl rfl rfl (Nat.le_refl _) rfl rfl rfl (p_X8_next tx N t.2.2.1 hN (hC.f b2) hT9.ok.2.1 ha2) (fun r81 m81 e81 => ?_)
          obtain ⟨M9, rfl⟩ : ∃ M9, M9 = m81 := ⟨_, rfl⟩
          obtain ⟨y1, y2⟩ := e81
          refine Ev.iconst (q := 109) dX6_readAtom_108 ki_0 rfl ?_
          refine rZ dX6_readAtom_109 rfl (by decide) ?_
          refine ⟨fun z => absurd z h35, fun z => absurd z h23, fun _ _ z => absurd hwd z, fun _ _ _ => ⟨rfl, b1.n y2, (hI.tf hc2 b2).tf hc2 y2.tf⟩, b2.la1.tr y2.tf.la1⟩
        · skip
          have hwd : ¬ wdV 0 t.1 = -1 := fun z => by have := hw1.mp z; omega
          obtain ⟨v1, v2, v3⟩ := hw2 hwd
          obtain ⟨wn, hwn⟩ : ∃ wn : Nat, wcF t = wn := ⟨(wcF t).toNat, by omega⟩
          rw [hwn]
          refine Ev.aload_n (q := 89) dX6_readAtom_88 rfl rfl ?_
          refine Ev.iload_n (q := 90) dX6_readAtom_89 rfl rfl ?_
          refine cV1v (q := 93) (d' := d + 5) dX6_readAtom_90 mlX6_241 moX2_putWord mvX2_putWord k25 rfl rfl rfl (Nat.le_refl _) rfl rfl rfl (p_X2_putWord 25 cs s wn (by decide) hI.1 (by omega) (by omega)) (fun r8 m8 e8 => ?_)
          obtain ⟨M8, rfl⟩ : ∃ M8, M8 = m8 := ⟨_, rfl⟩
          obtain ⟨z1, z2⟩ := e8
          refine Ev.goto (q := 101) dX6_readAtom_93 (by decide) ?_
          have zl := z2.lb
          refine Ev.aload_n (q := 102) dX6_readAtom_101 rfl rfl ?_
          refine gR (q := 105) dX6_readAtom_102 gfX6_35 k2 r2_4 rfl rfl ?_
          refine cV0v (q := 108) (d' := d + 5) dX6_readAtom_105 mlX6_132 moX8_next mvX8_next k22 rfl rfl rfl (Nat.le_refl _) rfl rfl rfl (p_X8_next tx N t.2.2.1 hN (hC.lb hc2 zl) hT9.ok.2.1 (by rw [zl 22 2 (sLb_f (by decide))]; exact h.2.2.2.1)) (fun r81 m81 e81 => ?_)
          obtain ⟨M9, rfl⟩ : ∃ M9, M9 = m81 := ⟨_, rfl⟩
          obtain ⟨y1, y2⟩ := e81
          refine Ev.iconst (q := 109) dX6_readAtom_108 ki_0 rfl ?_
          refine rZ dX6_readAtom_109 rfl (by decide) ?_
          refine ⟨fun z => absurd z h35, fun z => absurd z h23, fun _ _ _ => ⟨rfl, OKc_nx (h.lb hc2 z2.lb).1 y1 y2, ?_⟩, fun _ _ z => absurd z hwd, z2.lb.la2.tr y2.tf.la1⟩
          rw [v3, hwn]
          exact LI5.tf hc2 ⟨z1, by rw [z2 25 1 (by decide)]; exact hI.2.1, by rw [z2 25 0 (by decide)]; exact hI.2.2⟩ y2.tf
      · skip
        have h23 : t.1 = 23 := by omega
        have hnum : m 22 5 = t.2.2.2 := h.2.2.2.2 h23
        refine Ev.aload_n (q := 70) dX6_readAtom_69 rfl rfl ?_
        refine Ev.aload_n (q := 71) dX6_readAtom_70 rfl rfl ?_
        refine gR (q := 74) dX6_readAtom_71 gfX6_35 k2 r2_4 rfl rfl ?_
        refine gI (q := 77) dX6_readAtom_74 gfX6_171 k22 rfl rfl ?_
        rw [hnum]
        refine cV1v (q := 80) (d' := d + 5) dX6_readAtom_77 mlX6_238 moX2_putNumber mvX2_putNumber k25 rfl rfl rfl (Nat.le_refl _) rfl rfl rfl (p_X2_putNumber 25 cs s t.2.2.2 (by decide) hI.1 (by omega)) (fun r9 m9 e9 => ?_)
        obtain ⟨M8, rfl⟩ : ∃ M8, M8 = m9 := ⟨_, rfl⟩
        obtain ⟨z1, z2⟩ := e9
        refine Ev.goto (q := 101) dX6_readAtom_80 (by decide) ?_
        have zl := z2.lb
        refine Ev.aload_n (q := 102) dX6_readAtom_101 rfl rfl ?_
        refine gR (q := 105) dX6_readAtom_102 gfX6_35 k2 r2_4 rfl rfl ?_
        refine cV0v (q := 108) (d' := d + 5) dX6_readAtom_105 mlX6_132 moX8_next mvX8_next k22 rfl rfl rfl (Nat.le_refl _) rfl rfl rfl (p_X8_next tx N t.2.2.1 hN (hC.lb hc2 zl) hT9.ok.2.1 (by rw [zl 22 2 (sLb_f (by decide))]; exact h.2.2.2.1)) (fun r81 m81 e81 => ?_)
        obtain ⟨M9, rfl⟩ : ∃ M9, M9 = m81 := ⟨_, rfl⟩
        obtain ⟨y1, y2⟩ := e81
        refine Ev.iconst (q := 109) dX6_readAtom_108 ki_0 rfl ?_
        refine rZ dX6_readAtom_109 rfl (by decide) ?_
        exact ⟨fun z => absurd z (by omega), fun _ => ⟨rfl, OKc_nx (h.lb hc2 z2.lb).1 y1 y2, LI5.tf hc2 ⟨z1, by rw [z2 25 1 (by decide)]; exact hI.2.1, by rw [z2 25 0 (by decide)]; exact hI.2.2⟩ y2.tf⟩, fun _ z => absurd h23 z, fun _ z => absurd h23 z, z2.lb.la2.tr y2.tf.la1⟩
  · skip
    have h35 : t.1 = 35 := by split at h2 <;> omega
    refine Ev.aload_n (q := 13) dX6_readAtom_12 rfl rfl ?_
    refine gI (q := 16) dX6_readAtom_13 gfX6_218 k25 rfl rfl ?_
    first | rw [hI.2.1] | rw [hI.2.1.1]
    refine Ev.bipush (q := 18) dX6_readAtom_16 kb_6 rfl ?_
    refine Ev.icmp_lt (tgt := 29) (q := 21) dX6_readAtom_18 (by decide) rfl (fun h10 => ?_) (fun h10 => ?_)
    · skip
      refine Ev.aload_n (q := 30) dX6_readAtom_29 rfl rfl ?_
      refine cV0v (q := 33) (d' := d + 5) dX6_readAtom_30 mlX6_228 moX2_open mvX2_open k25 rfl rfl rfl (Nat.le_refl _) rfl rfl rfl (p_X2_open 25 cs s (by decide) hI.1 (by omega)) (fun r11 m11 e11 => ?_)
      obtain ⟨M8, rfl⟩ : ∃ M8, M8 = m11 := ⟨_, rfl⟩
      obtain ⟨z1, z2, z3, z4⟩ := e11
      have zl := z3
      refine Ev.aload_n (q := 34) dX6_readAtom_33 rfl rfl ?_
      refine gR (q := 37) dX6_readAtom_34 gfX6_35 k2 r2_4 rfl rfl ?_
      refine cV0v (q := 40) (d' := d + 5) dX6_readAtom_37 mlX6_132 moX8_next mvX8_next k22 rfl rfl rfl (Nat.le_refl _) rfl rfl rfl (p_X8_next tx N t.2.2.1 hN (hC.lb hc2 zl) hT9.ok.2.1 (by rw [zl 22 2 (sLb_f (by decide))]; exact h.2.2.2.1)) (fun r81 m81 e81 => ?_)
      obtain ⟨M9, rfl⟩ : ∃ M9, M9 = m81 := ⟨_, rfl⟩
      obtain ⟨y1, y2⟩ := e81
      refine Ev.iconst (q := 41) dX6_readAtom_40 ki_1 rfl ?_
      refine rZ dX6_readAtom_41 rfl (by decide) ?_
      refine ⟨fun _ => ⟨fun z => absurd z (by omega), fun _ => ⟨rfl, OKc_nx (h.lb hc2 zl).1 y1 y2, ?_⟩⟩, fun z => absurd z (by omega), fun z => absurd h35 z, fun z => absurd h35 z, zl.la2.tr y2.tf.la1⟩
      exact LI5.tf hc2 ⟨z1, by rw [z2, hI.2.1, w32_of (by omega) (by omega)]; omega, by rw [z4]; exact hI.2.2⟩ y2.tf
    · skip
      refine Ev.aload_n (q := 22) dX6_readAtom_21 rfl rfl ?_
      refine Ev.iconst (q := 23) dX6_readAtom_22 ki_4 rfl ?_
      refine cV1v (q := 26) (d' := d + 5) dX6_readAtom_23 mlX6_118 moX6_fail mvX6_fail k2 rfl rfl rfl (Nat.le_refl _) rfl rfl rfl (p_X6_fail tx N t 4 hT9 (by decide) h) (fun r12 m12 e12 => ?_)
      obtain ⟨M8, rfl⟩ : ∃ M8, M8 = m12 := ⟨_, rfl⟩
      obtain ⟨b1, b2, b3⟩ := e12
      have hf22 : M8 22 2 = m 22 2 := by rw [b3]
      refine Ev.goto (q := 33) dX6_readAtom_26 (by decide) ?_
      have fk8 : M8 22 2 = m 22 2 := hf22
      have ha2 : M8 22 2 = (t.2.2.1 : Int) := by rw [fk8]; exact h.2.2.2.1
      refine Ev.aload_n (q := 34) dX6_readAtom_33 rfl rfl ?_
      refine gR (q := 37) dX6_readAtom_34 gfX6_35 k2 r2_4 rfl rfl ?_
      refine cV0v (q := 40) (d' := d + 5) dX6_readAtom_37 mlX6_132 moX8_next mvX8_next k22 rfl rfl rfl (Nat.le_refl _) rfl rfl rfl (p_X8_next tx N t.2.2.1 hN (hC.f b2) hT9.ok.2.1 ha2) (fun r81 m81 e81 => ?_)
      obtain ⟨M9, rfl⟩ : ∃ M9, M9 = m81 := ⟨_, rfl⟩
      obtain ⟨y1, y2⟩ := e81
      refine Ev.iconst (q := 41) dX6_readAtom_40 ki_1 rfl ?_
      refine rZ dX6_readAtom_41 rfl (by decide) ?_
      exact ⟨fun _ => ⟨fun _ => ⟨rfl, b1.n y2, (hI.tf hc2 b2).tf hc2 y2.tf⟩, fun z => absurd (show deep = 6 by omega) z⟩, fun z => absurd z (by omega), fun z => absurd h35 z, fun z => absurd h35 z, b2.la1.tr y2.tf.la1⟩
set_option maxRecDepth 4000 in
theorem p_X6_readAtom_1 {Γ : Gm} {d : Nat} {m : Mem} (tx : Nat → Int) (N : Nat) (t : Tok) (deep : Nat) (cs s : List Int) (hN : N ≤ 900) (hC : TC m tx N) (hT9 : tT tx N t) (h : OKc m t) (hI : LI5 m 29 cs s deep) (hd : deep ≤ 6) (hs : s.length ≤ 20) (hcs : cs.length + s.length < 900) : Ci Γ (d + 6) MX6_readAtom [rv 2, rv 29, iv 0] m (fun r m' => (t.1 = 35 → (deep = 6 → r = 1 ∧ BDc m' ((if t.1 = 25 then 1 else 4), t.2.1) ∧ LI5 m' 29 cs s deep) ∧ (¬ deep = 6 → r = 1 ∧ OKc m' (nxS tx N t) ∧ LI5 m' 29 cs (-14 :: s) (deep + 1))) ∧ (t.1 = 23 → r = 0 ∧ OKc m' (nxS tx N t) ∧ LI5 m' 29 (cs ++ [t.2.2.2]) s deep) ∧ (¬ t.1 = 35 → ¬ t.1 = 23 → ¬ wdV 1 t.1 = -1 → r = 0 ∧ OKc m' (nxS tx N t) ∧ LI5 m' 29 (cs ++ [codC 1 (1000 + wdV 1 t.1)]) s deep) ∧ (¬ t.1 = 35 → ¬ t.1 = 23 → wdV 1 t.1 = -1 → r = 0 ∧ BDc m' ((if t.1 = 25 then 1 else 2), t.2.1) ∧ LI5 m' 29 cs s deep) ∧ Fr (sLa 29) m m') := by
  refine Ci.of moX6_readAtom rfl rfl (fun hA hM => ?_)
  show Em Γ (d + 6) MX6_readAtom _ 0 [rv 2, rv 29, iv 0, uv] [] m
  obtain ⟨lwK, lwr2, lwr3, lwr5, lwK1, lwK2, lwK3, lwN⟩ := lawK 29 (by decide)
  have hc2 : (29 : Nat) = 25 ∨ (29 : Nat) = 29 := by decide
  obtain ⟨hw1, hw2⟩ := wc_1 t
  have hkc := kcl_w hT9.ok.2.2.2.1
  refine Ev.aload_n (q := 1) dX6_readAtom_0 rfl rfl ?_
  refine gR (q := 4) dX6_readAtom_1 gfX6_35 k2 r2_4 rfl rfl ?_
  refine Ev.bipush (q := 6) dX6_readAtom_4 kb_40 rfl ?_
  refine cV1i (q := 9) (d' := d + 5) dX6_readAtom_6 mlX6_152 moX8_isSign mvX8_isSign k22 rfl rfl rfl (Nat.le_refl _) rfl rfl rfl (p_X8_isSign tx N t 40 35 hN hC hT9 h.2 (by decide)) (fun r1 m1 e1 => ?_)
  obtain ⟨rfl, e1⟩ := e1
  obtain rfl := e1.symm
  refine Ev.if_eq (tgt := 42) (q := 12) dX6_readAtom_9 (by decide) rfl (fun h2 => ?_) (fun h2 => ?_)
  · skip
    have h35 : ¬ t.1 = 35 := by split at h2 <;> omega
    refine Ev.iload_n (q := 43) dX6_readAtom_42 rfl rfl ?_
    refine Ev.if_eq (tgt := 53) (q := 46) dX6_readAtom_43 (by decide) rfl (fun h3 => ?_) (fun h3 => ?_)
    · skip
      refine Ev.aload_n (q := 54) dX6_readAtom_53 rfl rfl ?_
      refine cV0i (q := 57) (d' := d + 5) dX6_readAtom_54 mlX6_235 moX6_wordOfStop mvX6_wordOfStop k2 rfl rfl rfl (Nat.le_refl _) rfl rfl rfl (p_X6_wordOfStop tx N t hN hC hT9 h) (fun r4 m4 e4 => ?_)
      obtain ⟨rfl, e4⟩ := e4
      obtain rfl := e4.symm
      refine istore_n_3 (q := 58) dX6_readAtom_57 rfl rfl rfl ?_
      refine Ev.aload_n (q := 59) dX6_readAtom_58 rfl rfl ?_
      refine gR (q := 62) dX6_readAtom_59 gfX6_35 k2 r2_4 rfl rfl ?_
      refine gI (q := 65) dX6_readAtom_62 gfX6_79 k22 rfl rfl ?_
      first | rw [h.2.1] | rw [h.2.1.1]
      refine Ev.iconst (q := 66) dX6_readAtom_65 ki_2 rfl ?_
      refine Ev.icmp_ne (tgt := 83) (q := 69) dX6_readAtom_66 (by decide) rfl (fun h5 => ?_) (fun h5 => ?_)
      · skip
        have h23 : ¬ t.1 = 23 := by omega
        refine Ev.iload_n (q := 84) dX6_readAtom_83 rfl rfl ?_
        refine Ev.iconst (q := 85) dX6_readAtom_84 ki_m1 rfl ?_
        refine Ev.icmp_eq (tgt := 96) (q := 88) dX6_readAtom_85 (by decide) rfl (fun h6 => ?_) (fun h6 => ?_)
        · skip
          have hwd : wdV 1 t.1 = -1 := hw1.mpr (by omega)
          refine Ev.aload_n (q := 97) dX6_readAtom_96 rfl rfl ?_
          refine Ev.iconst (q := 98) dX6_readAtom_97 ki_2 rfl ?_
          refine cV1v (q := 101) (d' := d + 5) dX6_readAtom_98 mlX6_118 moX6_fail mvX6_fail k2 rfl rfl rfl (Nat.le_refl _) rfl rfl rfl (p_X6_fail tx N t 2 hT9 (by decide) h) (fun r7 m7 e7 => ?_)
          obtain ⟨M8, rfl⟩ : ∃ M8, M8 = m7 := ⟨_, rfl⟩
          obtain ⟨b1, b2, b3⟩ := e7
          have hf22 : M8 22 2 = m 22 2 := by rw [b3]
          have fk8 : M8 22 2 = m 22 2 := hf22
          have ha2 : M8 22 2 = (t.2.2.1 : Int) := by rw [fk8]; exact h.2.2.2.1
          refine Ev.aload_n (q := 102) dX6_readAtom_101 rfl rfl ?_
          refine gR (q := 105) dX6_readAtom_102 gfX6_35 k2 r2_4 rfl rfl ?_
          refine cV0v (q := 108) (d' := d + 5) dX6_readAtom_105 mlX6_132 moX8_next mvX8_next k22 rfl rfl rfl (Nat.le_refl _) rfl rfl rfl (p_X8_next tx N t.2.2.1 hN (hC.f b2) hT9.ok.2.1 ha2) (fun r81 m81 e81 => ?_)
          obtain ⟨M9, rfl⟩ : ∃ M9, M9 = m81 := ⟨_, rfl⟩
          obtain ⟨y1, y2⟩ := e81
          refine Ev.iconst (q := 109) dX6_readAtom_108 ki_0 rfl ?_
          refine rZ dX6_readAtom_109 rfl (by decide) ?_
          refine ⟨fun z => absurd z h35, fun z => absurd z h23, fun _ _ z => absurd hwd z, fun _ _ _ => ⟨rfl, b1.n y2, (hI.tf hc2 b2).tf hc2 y2.tf⟩, b2.la1.tr y2.tf.la1⟩
        · skip
          have hwd : ¬ wdV 1 t.1 = -1 := fun z => by have := hw1.mp z; omega
          obtain ⟨v1, v2, v3⟩ := hw2 hwd
          obtain ⟨wn, hwn⟩ : ∃ wn : Nat, wcS t = wn := ⟨(wcS t).toNat, by omega⟩
          rw [hwn]
          refine Ev.aload_n (q := 89) dX6_readAtom_88 rfl rfl ?_
          refine Ev.iload_n (q := 90) dX6_readAtom_89 rfl rfl ?_
          refine cV1v (q := 93) (d' := d + 5) dX6_readAtom_90 mlX6_241 moX2_putWord mvX2_putWord k29 rfl rfl rfl (Nat.le_refl _) rfl rfl rfl (p_X2_putWord 29 cs s wn (by decide) hI.1 (by omega) (by omega)) (fun r8 m8 e8 => ?_)
          obtain ⟨M8, rfl⟩ : ∃ M8, M8 = m8 := ⟨_, rfl⟩
          obtain ⟨z1, z2⟩ := e8
          refine Ev.goto (q := 101) dX6_readAtom_93 (by decide) ?_
          have zl := z2.lb
          refine Ev.aload_n (q := 102) dX6_readAtom_101 rfl rfl ?_
          refine gR (q := 105) dX6_readAtom_102 gfX6_35 k2 r2_4 rfl rfl ?_
          refine cV0v (q := 108) (d' := d + 5) dX6_readAtom_105 mlX6_132 moX8_next mvX8_next k22 rfl rfl rfl (Nat.le_refl _) rfl rfl rfl (p_X8_next tx N t.2.2.1 hN (hC.lb hc2 zl) hT9.ok.2.1 (by rw [zl 22 2 (sLb_f (by decide))]; exact h.2.2.2.1)) (fun r81 m81 e81 => ?_)
          obtain ⟨M9, rfl⟩ : ∃ M9, M9 = m81 := ⟨_, rfl⟩
          obtain ⟨y1, y2⟩ := e81
          refine Ev.iconst (q := 109) dX6_readAtom_108 ki_0 rfl ?_
          refine rZ dX6_readAtom_109 rfl (by decide) ?_
          refine ⟨fun z => absurd z h35, fun z => absurd z h23, fun _ _ _ => ⟨rfl, OKc_nx (h.lb hc2 z2.lb).1 y1 y2, ?_⟩, fun _ _ z => absurd z hwd, z2.lb.la2.tr y2.tf.la1⟩
          rw [v3, hwn]
          exact LI5.tf hc2 ⟨z1, by rw [z2 29 1 (by decide)]; exact hI.2.1, by rw [z2 29 0 (by decide)]; exact hI.2.2⟩ y2.tf
      · skip
        have h23 : t.1 = 23 := by omega
        have hnum : m 22 5 = t.2.2.2 := h.2.2.2.2 h23
        refine Ev.aload_n (q := 70) dX6_readAtom_69 rfl rfl ?_
        refine Ev.aload_n (q := 71) dX6_readAtom_70 rfl rfl ?_
        refine gR (q := 74) dX6_readAtom_71 gfX6_35 k2 r2_4 rfl rfl ?_
        refine gI (q := 77) dX6_readAtom_74 gfX6_171 k22 rfl rfl ?_
        rw [hnum]
        refine cV1v (q := 80) (d' := d + 5) dX6_readAtom_77 mlX6_238 moX2_putNumber mvX2_putNumber k29 rfl rfl rfl (Nat.le_refl _) rfl rfl rfl (p_X2_putNumber 29 cs s t.2.2.2 (by decide) hI.1 (by omega)) (fun r9 m9 e9 => ?_)
        obtain ⟨M8, rfl⟩ : ∃ M8, M8 = m9 := ⟨_, rfl⟩
        obtain ⟨z1, z2⟩ := e9
        refine Ev.goto (q := 101) dX6_readAtom_80 (by decide) ?_
        have zl := z2.lb
        refine Ev.aload_n (q := 102) dX6_readAtom_101 rfl rfl ?_
        refine gR (q := 105) dX6_readAtom_102 gfX6_35 k2 r2_4 rfl rfl ?_
        refine cV0v (q := 108) (d' := d + 5) dX6_readAtom_105 mlX6_132 moX8_next mvX8_next k22 rfl rfl rfl (Nat.le_refl _) rfl rfl rfl (p_X8_next tx N t.2.2.1 hN (hC.lb hc2 zl) hT9.ok.2.1 (by rw [zl 22 2 (sLb_f (by decide))]; exact h.2.2.2.1)) (fun r81 m81 e81 => ?_)
        obtain ⟨M9, rfl⟩ : ∃ M9, M9 = m81 := ⟨_, rfl⟩
        obtain ⟨y1, y2⟩ := e81
        refine Ev.iconst (q := 109) dX6_readAtom_108 ki_0 rfl ?_
        refine rZ dX6_readAtom_109 rfl (by decide) ?_
        exact ⟨fun z => absurd z (by omega), fun _ => ⟨rfl, OKc_nx (h.lb hc2 z2.lb).1 y1 y2, LI5.tf hc2 ⟨z1, by rw [z2 29 1 (by decide)]; exact hI.2.1, by rw [z2 29 0 (by decide)]; exact hI.2.2⟩ y2.tf⟩, fun _ z => absurd h23 z, fun _ z => absurd h23 z, z2.lb.la2.tr y2.tf.la1⟩
    · skip
      omega
  · skip
    have h35 : t.1 = 35 := by split at h2 <;> omega
    refine Ev.aload_n (q := 13) dX6_readAtom_12 rfl rfl ?_
    refine gI (q := 16) dX6_readAtom_13 gfX6_218 k29 rfl rfl ?_
    first | rw [hI.2.1] | rw [hI.2.1.1]
    refine Ev.bipush (q := 18) dX6_readAtom_16 kb_6 rfl ?_
    refine Ev.icmp_lt (tgt := 29) (q := 21) dX6_readAtom_18 (by decide) rfl (fun h10 => ?_) (fun h10 => ?_)
    · skip
      refine Ev.aload_n (q := 30) dX6_readAtom_29 rfl rfl ?_
      refine cV0v (q := 33) (d' := d + 5) dX6_readAtom_30 mlX6_228 moX2_open mvX2_open k29 rfl rfl rfl (Nat.le_refl _) rfl rfl rfl (p_X2_open 29 cs s (by decide) hI.1 (by omega)) (fun r11 m11 e11 => ?_)
      obtain ⟨M8, rfl⟩ : ∃ M8, M8 = m11 := ⟨_, rfl⟩
      obtain ⟨z1, z2, z3, z4⟩ := e11
      have zl := z3
      refine Ev.aload_n (q := 34) dX6_readAtom_33 rfl rfl ?_
      refine gR (q := 37) dX6_readAtom_34 gfX6_35 k2 r2_4 rfl rfl ?_
      refine cV0v (q := 40) (d' := d + 5) dX6_readAtom_37 mlX6_132 moX8_next mvX8_next k22 rfl rfl rfl (Nat.le_refl _) rfl rfl rfl (p_X8_next tx N t.2.2.1 hN (hC.lb hc2 zl) hT9.ok.2.1 (by rw [zl 22 2 (sLb_f (by decide))]; exact h.2.2.2.1)) (fun r81 m81 e81 => ?_)
      obtain ⟨M9, rfl⟩ : ∃ M9, M9 = m81 := ⟨_, rfl⟩
      obtain ⟨y1, y2⟩ := e81
      refine Ev.iconst (q := 41) dX6_readAtom_40 ki_1 rfl ?_
      refine rZ dX6_readAtom_41 rfl (by decide) ?_
      refine ⟨fun _ => ⟨fun z => absurd z (by omega), fun _ => ⟨rfl, OKc_nx (h.lb hc2 zl).1 y1 y2, ?_⟩⟩, fun z => absurd z (by omega), fun z => absurd h35 z, fun z => absurd h35 z, zl.la2.tr y2.tf.la1⟩
      exact LI5.tf hc2 ⟨z1, by rw [z2, hI.2.1, w32_of (by omega) (by omega)]; omega, by rw [z4]; exact hI.2.2⟩ y2.tf
    · skip
      refine Ev.aload_n (q := 22) dX6_readAtom_21 rfl rfl ?_
      refine Ev.iconst (q := 23) dX6_readAtom_22 ki_4 rfl ?_
      refine cV1v (q := 26) (d' := d + 5) dX6_readAtom_23 mlX6_118 moX6_fail mvX6_fail k2 rfl rfl rfl (Nat.le_refl _) rfl rfl rfl (p_X6_fail tx N t 4 hT9 (by decide) h) (fun r12 m12 e12 => ?_)
      obtain ⟨M8, rfl⟩ : ∃ M8, M8 = m12 := ⟨_, rfl⟩
      obtain ⟨b1, b2, b3⟩ := e12
      have hf22 : M8 22 2 = m 22 2 := by rw [b3]
      refine Ev.goto (q := 33) dX6_readAtom_26 (by decide) ?_
      have fk8 : M8 22 2 = m 22 2 := hf22
      have ha2 : M8 22 2 = (t.2.2.1 : Int) := by rw [fk8]; exact h.2.2.2.1
      refine Ev.aload_n (q := 34) dX6_readAtom_33 rfl rfl ?_
      refine gR (q := 37) dX6_readAtom_34 gfX6_35 k2 r2_4 rfl rfl ?_
      refine cV0v (q := 40) (d' := d + 5) dX6_readAtom_37 mlX6_132 moX8_next mvX8_next k22 rfl rfl rfl (Nat.le_refl _) rfl rfl rfl (p_X8_next tx N t.2.2.1 hN (hC.f b2) hT9.ok.2.1 ha2) (fun r81 m81 e81 => ?_)
      obtain ⟨M9, rfl⟩ : ∃ M9, M9 = m81 := ⟨_, rfl⟩
      obtain ⟨y1, y2⟩ := e81
      refine Ev.iconst (q := 41) dX6_readAtom_40 ki_1 rfl ?_
      refine rZ dX6_readAtom_41 rfl (by decide) ?_
      exact ⟨fun _ => ⟨fun _ => ⟨rfl, b1.n y2, (hI.tf hc2 b2).tf hc2 y2.tf⟩, fun z => absurd (show deep = 6 by omega) z⟩, fun z => absurd z (by omega), fun z => absurd h35 z, fun z => absurd h35 z, b2.la1.tr y2.tf.la1⟩
