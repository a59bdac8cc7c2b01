/-! ===== the class: a text is read ===== -/
def sCl (a k : Nat) : Bool := decide ((a = 3 ∧ 1 ≤ k ∧ k ≤ 3) ∨ a = 4)
theorem sCl_t {a k : Nat} (h : (a = 3 ∧ 1 ≤ k ∧ k ≤ 3) ∨ a = 4) : sCl a k = true := decide_eq_true h
theorem sCl_f {a k : Nat} (h : ¬ ((a = 3 ∧ 1 ≤ k ∧ k ≤ 3) ∨ a = 4)) : sCl a k = false := decide_eq_false h
theorem sCl_n {a k : Nat} (h : sCl a k = false) : ¬ ((a = 3 ∧ 1 ≤ k ∧ k ≤ 3) ∨ a = 4) := of_decide_eq_false h
def sRq (a k : Nat) : Bool := decide ((a = 2 ∧ (k = 2 ∨ k = 3)) ∨ (3 ≤ a ∧ a ≤ 22) ∨ (24 ≤ a ∧ a ≤ 32))
theorem sRq_t {a k : Nat} (h : (a = 2 ∧ (k = 2 ∨ k = 3)) ∨ (3 ≤ a ∧ a ≤ 22) ∨ (24 ≤ a ∧ a ≤ 32)) : sRq a k = true := decide_eq_true h
theorem sRq_f {a k : Nat} (h : ¬ ((a = 2 ∧ (k = 2 ∨ k = 3)) ∨ (3 ≤ a ∧ a ≤ 22) ∨ (24 ≤ a ∧ a ≤ 32))) : sRq a k = false := decide_eq_false h
theorem sRq_n {a k : Nat} (h : sRq a k = false) : ¬ ((a = 2 ∧ (k = 2 ∨ k = 3)) ∨ (3 ≤ a ∧ a ≤ 22) ∨ (24 ≤ a ∧ a ≤ 32)) := of_decide_eq_false h
theorem Fr.rd {m m' : Mem} (h : Fr sPc m m') : Fr sRq m m' := h.mono (fun a k q => sPc_f (by have := sRq_n q; omega))
theorem Fr.rd1 {m m' : Mem} (h : Fr sCl m m') : Fr sRq m m' := h.mono (fun a k q => sCl_f (by have := sRq_n q; omega))
theorem Fr.rd2 {m m' : Mem} (h : Fr (sA 22) m m') : Fr sRq m m' := h.mono (fun a k q => sA_f (by have := sRq_n q; omega))
/-- what reading leaves -/
def RD (r : Int) (m : Mem) (x : Er (Tok × Row)) : Prop := match x with
  | .inl e => r = 0 ∧ BDc m e
  | .inr a => r = 1 ∧ (m 2 2 = 0 ∧ m 2 3 = -1) ∧ HouR a.2 m 3 ∧ NowR a.2 m 14 ∧ HI a.2
theorem RC.nowR {m : Mem} {f : Row} (h : RC m f (f 2).toNat (f 3).toNat) : NowR f m 14 := by
  refine ⟨fun l hl => ?_, fun p hp => ?_⟩
  · obtain ⟨-, -, q1, q2, q3, q4⟩ := h.2.2.1 l (by omega)
    exact ⟨q1, q2, q3, q4⟩
  · obtain ⟨-, -, -, -, q1, q2, q3⟩ := h.2.2.2.1 p (by omega)
    exact ⟨q1, q2, q3⟩
theorem RC.houR {m : Mem} {f : Row} (h : RC m f (f 2).toNat (f 3).toNat) (h1 : FTd m f (f 3).toNat 0) (h2 : HTd m f (f 3).toNat 0) (h3 : STd m f (f 2).toNat 0 1) : HouR f m 3 := by
  refine ⟨h.1, h.2.1, fun l hl => ⟨(h.2.2.1 l (by omega)).1, fun i hi n z1 z2 => h3 l i n z1 z2 hi (by omega)⟩, fun p hp => ?_⟩
  obtain ⟨q1, q2, q3, q4, -⟩ := h.2.2.2.1 p (by omega)
  exact ⟨⟨q1, q2, q3, q4⟩, fun i hi => ⟨(h1 p i hi (by omega)).1, (h1 p i hi (by omega)).2, h2 p i hi (by omega)⟩⟩
theorem RC_start {m : Mem} {f0 : Row} (h0 : ∀ j, j < 1358 → f0 j = f0R j) (h3 : m 3 1 = 0 ∧ m 3 2 = 0 ∧ m 3 3 = 0) (h4 : ∀ j, j < 12 → m 4 j = 0) (h25 : m 25 0 = 0) (h29 : m 29 0 = 0) (x : Int) : RC (up m 3 0 x) (upg f0 1 x) 0 0 := by
  have e : ∀ j, j < 1358 → j ≠ 1 → upg f0 1 x j = 0 := fun j hj h1 => by rw [upg_ne _ _ h1, h0 j hj]; unfold f0R; rw [if_neg h1]
  refine ⟨⟨?_, ?_, ?_, ?_⟩, fun j hj => ?_, fun l hl => absurd hl (Nat.not_lt_zero _), fun l hl => absurd hl (Nat.not_lt_zero _), ⟨?_, fun z => ?_⟩, ⟨?_, fun z => ?_⟩⟩
  · rw [up_eq, upg_eq]
  · rw [up_k _ _ (by decide), e 0 (by omega) (by omega)]; exact h3.1
  · rw [up_k _ _ (by decide), e 2 (by omega) (by omega)]; exact h3.2.1
  · rw [up_k _ _ (by decide), e 3 (by omega) (by omega)]; exact h3.2.2
  · rw [up_o _ _ (by decide), e _ (by omega) (by omega)]; exact h4 j hj
  · rw [up_o _ _ (by decide), e _ (by omega) (by omega)]; exact h25
  · rw [e _ (by omega) (by omega)] at z; omega
  · rw [up_o _ _ (by decide), e _ (by omega) (by omega)]; exact h29
  · rw [e _ (by omega) (by omega)] at z; omega
theorem hoL_2 {tx : Nat → Int} {N n : Nat} {t : Tok} {f : Row} (h : ¬ t.1 = 24) : hoL tx N (n + 1) t f = bE (bE (lnS tx N t f) fun a => enS tx N a.1 a.2) fun b => hoL tx N n b.1 b.2 := by rw [hoL_ln h, bE_a]
set_option maxRecDepth 4000 in
theorem p_X1_clear {Γ : Gm} {d : Nat} {m : Mem}  : Ci Γ (d + 1) MX1_clear [rv 3] m (fun r m' => (m' 3 1 = 0 ∧ m' 3 2 = 0 ∧ m' 3 3 = 0) ∧ (∀ j, j < 12 → m' 4 j = 0) ∧ Fr sCl m m') := by
  refine Ci.of moX1_clear rfl rfl (fun hA hM => ?_)
  show Em Γ (d + 1) MX1_clear _ 0 [rv 3] [] m
  refine Ev.aload_n (q := 1) dX1_clear_0 rfl rfl ?_
  refine Ev.iconst (q := 2) dX1_clear_1 ki_0 rfl ?_
  refine pI (q := 5) dX1_clear_2 gfX1_15 k3 rfl rfl ?_
  refine Ev.aload_n (q := 6) dX1_clear_5 rfl rfl ?_
  refine Ev.iconst (q := 7) dX1_clear_6 ki_0 rfl ?_
  refine pI (q := 10) dX1_clear_7 gfX1_18 k3 rfl rfl ?_
  refine Ev.aload_n (q := 11) dX1_clear_10 rfl rfl ?_
  refine Ev.iconst (q := 12) dX1_clear_11 ki_0 rfl ?_
  refine pI (q := 15) dX1_clear_12 gfX1_21 k3 rfl rfl ?_
  refine Ev.aload_n (q := 16) dX1_clear_15 rfl rfl ?_
  refine gR (q := 19) dX1_clear_16 gfX1_24 k3 r3_4 rfl rfl ?_
  refine Ev.iconst (q := 20) dX1_clear_19 ki_0 rfl ?_
  refine cS2v (q := 23) (d' := d + 0) dX1_clear_20 mlX1_55 moJ7_fill_53178 msJ7_fill_53178 rfl rfl (Nat.le_refl _) rfl rfl rfl (p_J7_fill_53178 4 12 0 k4 (by decide)) (fun r1 m1 e1 => ?_)
  obtain ⟨M9, rfl⟩ : ∃ M9, M9 = m1 := ⟨_, rfl⟩
  obtain ⟨y1, y2⟩ := e1
  refine rV dX1_clear_23 rfl ?_
  refine ⟨⟨?_, ?_, ?_⟩, y1, ((((Fr.rf _ _).up (sCl_t (by omega))).up (sCl_t (by omega))).up (sCl_t (by omega))).tr (y2.mono (fun a k q => sA_f (by have := sCl_n q; omega)))⟩ <;> (rw [y2 3 _ (sA_f (by decide))]; simp (disch := decide) only [up_k, up_eq])
set_option maxRecDepth 4000 in
theorem lc_read {Γ : Gm} {d : Nat} {m0 : Mem} (tx : Nat → Int) (N : Nat) (hN : N ≤ 900) : ∀ (q : Nat) (t : Tok) (f : Row) (M : Mem) (k : Nat), LnH tx N t f → OKc M t → TC M tx N → RC M f (f 2).toNat (f 3).toNat → N - t.2.1 + 1 ≤ q → k + 1 ≤ t.2.1 → Fr sRq m0 M → Em Γ (d + 11) MX6_read (fun r m' => RD r m' (hoL tx N q t f) ∧ Fr sRq m0 m') 68 [rv 2, rv 1, iv N, iv k] [] M := by
  intro q
  induction q with
  | zero => intro t f M k hL h hC hR hq; omega
  | succ q ih =>
    intro t f M k hL h hC hR hq hk hF
    have hle := tO_le hL.1.1
    have hkc := kcl_w hL.1.1.2.2.2.1
    have hf4 := hL.1.2.2.1
    have hf0 := hL.1.2.2.2
    refine Ev.iload_n (q := 69) dX6_read_68 rfl rfl ?_
    refine Ev.sipush (q := 72) dX6_read_69 kh_900 rfl ?_
    refine Ev.icmp_ge (tgt := 102) (q := 75) dX6_read_72 (by decide) rfl (fun h1 => ?_) (fun h1 => ?_)
    · skip
      omega
    · skip
      refine Ev.aload_n (q := 76) dX6_read_75 rfl rfl ?_
      refine gI (q := 79) dX6_read_76 gfX6_25 k2 rfl rfl ?_
      rw [h.1.1]
      refine Ev.if_ne (tgt := 102) (q := 82) dX6_read_79 (by decide) rfl (fun h2 => ?_) (fun h2 => ?_)
      · skip
        omega
      · skip
        refine Ev.aload_n (q := 83) dX6_read_82 rfl rfl ?_
        refine gR (q := 86) dX6_read_83 gfX6_35 k2 r2_4 rfl rfl ?_
        refine gI (q := 89) dX6_read_86 gfX6_79 k22 rfl rfl ?_
        rw [h.2.1]
        refine Ev.if_eq (tgt := 102) (q := 92) dX6_read_89 (by decide) rfl (fun h3 => ?_) (fun h3 => ?_)
        · skip
          have h24 : t.1 = 24 := hkc.2.2.2.1.mp (by omega)
          refine Ev.aload_n (q := 103) dX6_read_102 rfl rfl ?_
          refine gI (q := 106) dX6_read_103 gfX6_25 k2 rfl rfl ?_
          rw [h.1.1]
          refine Ev.if_eq (tgt := 111) (q := 109) dX6_read_106 (by decide) rfl (fun h61 => ?_) (fun h61 => ?_)
          · skip
            refine Ev.aload_n (q := 112) dX6_read_111 rfl rfl ?_
            refine cV0v (q := 115) (d' := d + 10) dX6_read_112 mlX6_85 moX6_fillFeet mvX6_fillFeet k2 rfl rfl rfl (Nat.le_refl _) rfl rfl rfl (p_X6_fillFeet f hR hL.2.1 (by omega)) (fun r62 m62 e62 => ?_)
            obtain ⟨M9, rfl⟩ : ∃ M9, M9 = m62 := ⟨_, rfl⟩
            obtain ⟨hR9, t1, t2, f9⟩ := e62
            refine Ev.aload_n (q := 116) dX6_read_115 rfl rfl ?_
            refine cV0v (q := 119) (d' := d + 10) dX6_read_116 mlX6_88 moX6_fillStops mvX6_fillStops k2 rfl rfl rfl (Nat.le_refl _) rfl rfl rfl (p_X6_fillStops f hR9 hL.2.1 (by omega)) (fun r63 m63 e63 => ?_)
            obtain ⟨M8, rfl⟩ : ∃ M8, M8 = m63 := ⟨_, rfl⟩
            obtain ⟨hR8, t3, f8⟩ := e63
            refine Ev.iconst (q := 120) dX6_read_119 ki_1 rfl ?_
            refine rZ dX6_read_120 rfl (by decide) ?_
            rw [hoL_end h24]
            have e10 := f8.row 10 (fun _ => sFp_f (by omega))
            have e11 := f8.row 11 (fun _ => sFp_f (by omega))
            have e12 := f8.row 12 (fun _ => sFp_f (by omega))
            exact ⟨⟨rfl, ⟨by rw [f8 2 2 (sFp_f (by omega)), f9 2 2 (sFf_f (by omega))]; exact h.1.1, by rw [f8 2 3 (sFp_f (by omega)), f9 2 3 (sFf_f (by omega))]; exact h.1.2⟩, hR8.houR (fun q i z1 z2 => by rw [e10, e11]; exact t1 q i z1 z2) (fun q i z1 z2 => by rw [e12]; exact t2 q i z1 z2) t3, hR8.nowR, hL.2.1.hi (by omega)⟩, hF.tr ((f9.ffp.tr f8.fpp).rd)⟩
          · skip
            omega
        · skip
          have h24 : ¬ t.1 = 24 := fun z => by have := hkc.2.2.2.1.mpr z; omega
          refine Ev.aload_n (q := 93) dX6_read_92 rfl rfl ?_
          refine cV0v (q := 96) (d' := d + 10) dX6_read_93 mlX6_82 moX6_readLine mvX6_readLine k2 rfl rfl rfl (Nat.le_refl _) rfl rfl rfl (p_X6_readLine tx N t f hN hC hL.2.2 h hR hL.2.1.1 hL.2.1.2.2.2.2.1 ⟨hL.1.2.2.1.1, hL.1.2.2.1.2⟩ hL.2.1.2.2.2.2.2.wb h24 (by omega)) (fun r4 m4 e4 => ?_)
          obtain ⟨M9, rfl⟩ : ∃ M9, M9 = m4 := ⟨_, rfl⟩
          obtain ⟨x9, f9⟩ := e4
          rw [hoL_2 h24]
          cases hx : (bE (lnS tx N t f) fun a => enS tx N a.1 a.2) with
          | inl e =>
            rw [hx] at x9
            have x9 : BDc M9 e := x9
            refine iinc_3 (q := 99) dX6_read_96 rfl rfl rfl ?_
            refine Ev.goto (q := 68) dX6_read_99 (by decide) ?_
            refine Ev.iload_n (q := 69) dX6_read_68 rfl rfl ?_
            refine Ev.sipush (q := 72) dX6_read_69 kh_900 rfl ?_
            refine Ev.icmp_ge (tgt := 102) (q := 75) dX6_read_72 (by decide) rfl (fun h61 => ?_) (fun h61 => ?_)
            · skip
              refine Ev.aload_n (q := 103) dX6_read_102 rfl rfl ?_
              refine gI (q := 106) dX6_read_103 gfX6_25 k2 rfl rfl ?_
              rw [x9.1]
              refine Ev.if_eq (tgt := 111) (q := 109) dX6_read_106 (by decide) rfl (fun h62 => ?_) (fun h62 => ?_)
              · skip
                exact absurd (by assumption) x9.2.1
              · skip
                refine Ev.iconst (q := 110) dX6_read_109 ki_0 rfl ?_
                refine rZ dX6_read_110 rfl (by decide) ?_
                show RD _ _ (.inl e) ∧ _
                exact ⟨⟨rfl, x9⟩, hF.tr f9.rd⟩
            · skip
              refine Ev.aload_n (q := 76) dX6_read_75 rfl rfl ?_
              refine gI (q := 79) dX6_read_76 gfX6_25 k2 rfl rfl ?_
              rw [x9.1]
              refine Ev.if_ne (tgt := 102) (q := 82) dX6_read_79 (by decide) rfl (fun h63 => ?_) (fun h63 => ?_)
              · skip
                refine Ev.aload_n (q := 103) dX6_read_102 rfl rfl ?_
                refine gI (q := 106) dX6_read_103 gfX6_25 k2 rfl rfl ?_
                rw [x9.1]
                refine Ev.if_eq (tgt := 111) (q := 109) dX6_read_106 (by decide) rfl (fun h64 => ?_) (fun h64 => ?_)
                · skip
                  exact absurd (by assumption) x9.2.1
                · skip
                  refine Ev.iconst (q := 110) dX6_read_109 ki_0 rfl ?_
                  refine rZ dX6_read_110 rfl (by decide) ?_
                  show RD _ _ (.inl e) ∧ _
                  exact ⟨⟨rfl, x9⟩, hF.tr f9.rd⟩
              · skip
                exact absurd (by assumption) x9.2.1
          | inr b =>
            rw [hx] at x9
            obtain ⟨x9, hR9⟩ : OKc M9 b.1 ∧ RC M9 b.2 (b.2 2).toNat (b.2 3).toNat := x9
            obtain ⟨a, g1, g2⟩ := bE_inv hx
            obtain ⟨hL9, hnx⟩ := hL.nx g1 g2
            have hle2 := tO_le hL9.1.1
            refine iinc_3 (q := 99) dX6_read_96 rfl rfl rfl ?_
            refine Ev.goto (q := 68) dX6_read_99 (by decide) ?_
            rw [w32_of (by omega) (by omega)]
            exact ih b.1 b.2 M9 (k + 1) hL9 x9 (hC.p f9) hR9 (by omega) (by omega) (hF.tr f9.rd)
set_option maxRecDepth 4000 in
theorem p_X6_read {Γ : Gm} {d : Nat} {m : Mem} (tx : Nat → Int) (N : Nat) (f0 : Row) (hN : N ≤ 900) (hB : BT m tx N) (h0 : ∀ j, j < 1358 → f0 j = f0R j) : Ci Γ (d + 11) MX6_read [rv 2, rv 1, iv N] m (fun r m' => RD r m' (hoG tx N f0) ∧ Fr sRq m m') := by
  refine Ci.of moX6_read rfl rfl (fun hA hM => ?_)
  show Em Γ (d + 11) MX6_read _ 0 [rv 2, rv 1, iv N, uv] [] m
  refine Ev.aload_n (q := 1) dX6_read_0 rfl rfl ?_
  refine Ev.iconst (q := 2) dX6_read_1 ki_0 rfl ?_
  refine pI (q := 5) dX6_read_2 gfX6_25 k2 rfl rfl ?_
  refine Ev.aload_n (q := 6) dX6_read_5 rfl rfl ?_
  refine Ev.iconst (q := 7) dX6_read_6 ki_m1 rfl ?_
  refine pI (q := 10) dX6_read_7 gfX6_29 k2 rfl rfl ?_
  refine Ev.aload_n (q := 11) dX6_read_10 rfl rfl ?_
  refine gR (q := 14) dX6_read_11 gfX6_12 k2 r2_0 rfl rfl ?_
  refine cV0v (q := 17) (d' := d + 10) dX6_read_14 mlX6_53 moX1_clear mvX1_clear k3 rfl rfl rfl (Nat.le_refl _) rfl rfl rfl (p_X1_clear) (fun r1 m1 e1 => ?_)
  obtain ⟨M9, rfl⟩ : ∃ M9, M9 = m1 := ⟨_, rfl⟩
  obtain ⟨c3, c4, f9⟩ := e1
  refine Ev.aload_n (q := 18) dX6_read_17 rfl rfl ?_
  refine gR (q := 21) dX6_read_18 gfX6_46 k2 r2_6 rfl rfl ?_
  refine Ev.iconst (q := 22) dX6_read_21 ki_0 rfl ?_
  refine pZ (q := 25) dX6_read_22 gfX6_56 k25 (by decide) rfl rfl ?_
  refine Ev.aload_n (q := 26) dX6_read_25 rfl rfl ?_
  refine gR (q := 29) dX6_read_26 gfX6_50 k2 r2_7 rfl rfl ?_
  refine Ev.iconst (q := 30) dX6_read_29 ki_0 rfl ?_
  refine pZ (q := 33) dX6_read_30 gfX6_56 k29 (by decide) rfl rfl ?_
  refine Ev.aload_n (q := 34) dX6_read_33 rfl rfl ?_
  refine gR (q := 37) dX6_read_34 gfX6_35 k2 r2_4 rfl rfl ?_
  refine Ev.aload_n (q := 38) dX6_read_37 rfl rfl ?_
  refine Ev.iload_n (q := 39) dX6_read_38 rfl rfl ?_
  refine cV2v (q := 42) (d' := d + 10) dX6_read_39 mlX6_60 moX8_begin mvX8_begin k22 rfl rfl rfl (Nat.le_refl _) rfl rfl rfl (p_X8_begin tx N hN (fun i hi => by rw [up_o _ _ (by decide), up_o _ _ (by decide), f9 1 i (sCl_f (by omega)), up_o _ _ (by decide), up_o _ _ (by decide)]; exact hB i hi)) (fun r2 m2 e2 => ?_)
  obtain ⟨M8, rfl⟩ : ∃ M8, M8 = m2 := ⟨_, rfl⟩
  obtain ⟨hC8, tk8, f8⟩ := e2
  have ok8 : OKc M8 (tokV tx N 0) := ⟨⟨by rw [f8 2 2 (sA_f (by decide)), up_o _ _ (by decide), up_o _ _ (by decide), f9 2 2 (sCl_f (by omega)), up_k _ _ (by decide), up_eq], by rw [f8 2 3 (sA_f (by decide)), up_o _ _ (by decide), up_o _ _ (by decide), f9 2 3 (sCl_f (by omega)), up_eq]⟩, tk8⟩
  have F8 : Fr sRq m M8 := ((((((Fr.rf _ _).up (sRq_t (by omega))).up (sRq_t (by omega))).tr f9.rd1).up (sRq_t (by omega))).up (sRq_t (by omega))).tr f8.rd2
  have y3 : M8 3 1 = 0 ∧ M8 3 2 = 0 ∧ M8 3 3 = 0 := by rw [f8.rowA (a := 3) (by decide), up_o _ _ (by decide), up_o _ _ (by decide), up_o _ _ (by decide), up_o _ _ (by decide), up_o _ _ (by decide), up_o _ _ (by decide)]; exact c3
  have y4 : ∀ j, j < 12 → M8 4 j = 0 := fun j hj => by rw [f8.rowA (a := 4) (by decide), up_o _ _ (by decide), up_o _ _ (by decide)]; exact c4 j hj
  have y25 : M8 25 0 = 0 := by rw [f8.rowA (a := 25) (by decide), up_o _ _ (by decide), up_eq]
  have y29 : M8 29 0 = 0 := by rw [f8.rowA (a := 29) (by decide), up_eq]
  have hT0 : tT tx N (tokV tx N 0) := ⟨0, Nat.zero_le _, rfl⟩
  refine Ev.aload_n (q := 43) dX6_read_42 rfl rfl ?_
  refine Ev.ldcS (q := 45) dX6_read_43 (i := 0) rfl rfl ?_
  refine cV1v (q := 48) (d' := d + 10) dX6_read_45 mlX6_65 moX6_expectWord mvX6_expectWord k2 rfl rfl rfl (Nat.le_refl _) rfl rfl rfl (p_X6_expectWord tx N (tokV tx N 0) 0 hN hC8 hT0 ok8 (by decide)) (fun r3 m3 e3 => ?_)
  obtain ⟨M7, rfl⟩ : ∃ M7, M7 = m3 := ⟨_, rfl⟩
  obtain ⟨x7, f7⟩ := e3
  have hC7 := hC8.f f7
  have x7 : PTc M7 (eaS tx N 0 (tokV tx N 0)) := x7
  cases hx : eaS tx N 0 (tokV tx N 0) with
  | inl e =>
    rw [hx] at x7
    have x7 : BDc M7 e := x7
    refine Ev.aload_n (q := 49) dX6_read_48 rfl rfl ?_
    refine gR (q := 52) dX6_read_49 gfX6_12 k2 r2_0 rfl rfl ?_
    refine Ev.aload_n (q := 53) dX6_read_52 rfl rfl ?_
    refine Ev.iconst (q := 54) dX6_read_53 ki_2 rfl ?_
    refine Ev.bipush (q := 56) dX6_read_54 kb_12 rfl ?_
    refine cV2i (q := 59) (d' := d + 10) dX6_read_56 mlX6_69 moX6_expectNumber mvX6_expectNumber k2 rfl rfl rfl (Nat.le_refl _) rfl rfl rfl (p_X6_expectNumber_bd _ _ _ x7) (fun r101 m101 e101 => ?_)
    obtain ⟨rfl, e101⟩ := e101
    obtain rfl := e101.symm
    refine pI (q := 62) dX6_read_59 gfX6_73 k3 rfl rfl ?_
    refine Ev.aload_n (q := 63) dX6_read_62 rfl rfl ?_
    refine cV0v (q := 66) (d' := d + 10) dX6_read_63 mlX6_76 moX6_endLine mvX6_endLine k2 rfl rfl rfl (Nat.le_refl _) rfl rfl rfl (p_X6_endLine_bd _ (x7.up (a := 3) 0 0 (by decide))) (fun r102 m102 e102 => ?_)
    obtain rfl := e102
    refine Ev.iconst (q := 67) dX6_read_66 ki_0 rfl ?_
    refine istore_n_3 (q := 68) dX6_read_67 rfl rfl rfl ?_
    refine Ev.iload_n (q := 69) dX6_read_68 rfl rfl ?_
    refine Ev.sipush (q := 72) dX6_read_69 kh_900 rfl ?_
    refine Ev.icmp_ge (tgt := 102) (q := 75) dX6_read_72 (by decide) rfl (fun h103 => ?_) (fun h103 => ?_)
    · skip
      omega
    · skip
      refine Ev.aload_n (q := 76) dX6_read_75 rfl rfl ?_
      refine gI (q := 79) dX6_read_76 gfX6_25 k2 rfl rfl ?_
      rw [(x7.up (a := 3) 0 0 (by decide)).1]
      refine Ev.if_ne (tgt := 102) (q := 82) dX6_read_79 (by decide) rfl (fun h104 => ?_) (fun h104 => ?_)
      · skip
        refine Ev.aload_n (q := 103) dX6_read_102 rfl rfl ?_
        refine gI (q := 106) dX6_read_103 gfX6_25 k2 rfl rfl ?_
        rw [(x7.up (a := 3) 0 0 (by decide)).1]
        refine Ev.if_eq (tgt := 111) (q := 109) dX6_read_106 (by decide) rfl (fun h105 => ?_) (fun h105 => ?_)
        · skip
          exact absurd (by assumption) (x7.up (a := 3) 0 0 (by decide)).2.1
        · skip
          refine Ev.iconst (q := 110) dX6_read_109 ki_0 rfl ?_
          refine rZ dX6_read_110 rfl (by decide) ?_
          unfold hoG
          rw [bE_l hx]
          exact ⟨⟨rfl, (x7.up (a := 3) 0 0 (by decide))⟩, (F8.tr f7.pc.rd).up (sRq_t (by omega))⟩
      · skip
        exact absurd (by assumption) (x7.up (a := 3) 0 0 (by decide)).2.1
  | inr t1 =>
    rw [hx] at x7
    have x7 : OKc M7 t1 := x7
    obtain ⟨q1, q2, q3, q4⟩ := ea_T hT0 (by decide) hx
    refine Ev.aload_n (q := 49) dX6_read_48 rfl rfl ?_
    refine gR (q := 52) dX6_read_49 gfX6_12 k2 r2_0 rfl rfl ?_
    refine Ev.aload_n (q := 53) dX6_read_52 rfl rfl ?_
    refine Ev.iconst (q := 54) dX6_read_53 ki_2 rfl ?_
    refine Ev.bipush (q := 56) dX6_read_54 kb_12 rfl ?_
    refine cV2i (q := 59) (d' := d + 10) dX6_read_56 mlX6_69 moX6_expectNumber mvX6_expectNumber k2 rfl rfl rfl (Nat.le_refl _) rfl rfl rfl (p_X6_expectNumber tx N t1 2 12 hN hC7 q2 x7) (fun r61 m61 e61 => ?_)
    obtain ⟨M6, rfl⟩ : ∃ M6, M6 = m61 := ⟨_, rfl⟩
    obtain ⟨x6, f6⟩ := e61
    cases hy : nuS tx N 2 12 t1 with
    | inl e =>
      rw [hy] at x6
      obtain ⟨xr, x6⟩ : _ = 0 ∧ BDc M6 e := x6
      rw [xr]
      refine pI (q := 62) dX6_read_59 gfX6_73 k3 rfl rfl ?_
      refine Ev.aload_n (q := 63) dX6_read_62 rfl rfl ?_
      refine cV0v (q := 66) (d' := d + 10) dX6_read_63 mlX6_76 moX6_endLine mvX6_endLine k2 rfl rfl rfl (Nat.le_refl _) rfl rfl rfl (p_X6_endLine_bd _ (x6.up (a := 3) 0 0 (by decide))) (fun r101 m101 e101 => ?_)
      obtain rfl := e101
      refine Ev.iconst (q := 67) dX6_read_66 ki_0 rfl ?_
      refine istore_n_3 (q := 68) dX6_read_67 rfl rfl rfl ?_
      refine Ev.iload_n (q := 69) dX6_read_68 rfl rfl ?_
      refine Ev.sipush (q := 72) dX6_read_69 kh_900 rfl ?_
      refine Ev.icmp_ge (tgt := 102) (q := 75) dX6_read_72 (by decide) rfl (fun h102 => ?_) (fun h102 => ?_)
      · skip
        omega
      · skip
        refine Ev.aload_n (q := 76) dX6_read_75 rfl rfl ?_
        refine gI (q := 79) dX6_read_76 gfX6_25 k2 rfl rfl ?_
        rw [(x6.up (a := 3) 0 0 (by decide)).1]
        refine Ev.if_ne (tgt := 102) (q := 82) dX6_read_79 (by decide) rfl (fun h103 => ?_) (fun h103 => ?_)
        · skip
          refine Ev.aload_n (q := 103) dX6_read_102 rfl rfl ?_
          refine gI (q := 106) dX6_read_103 gfX6_25 k2 rfl rfl ?_
          rw [(x6.up (a := 3) 0 0 (by decide)).1]
          refine Ev.if_eq (tgt := 111) (q := 109) dX6_read_106 (by decide) rfl (fun h104 => ?_) (fun h104 => ?_)
          · skip
            exact absurd (by assumption) (x6.up (a := 3) 0 0 (by decide)).2.1
          · skip
            refine Ev.iconst (q := 110) dX6_read_109 ki_0 rfl ?_
            refine rZ dX6_read_110 rfl (by decide) ?_
            unfold hoG
            rw [bE_r hx, bE_l hy]
            exact ⟨⟨rfl, (x6.up (a := 3) 0 0 (by decide))⟩, ((F8.tr f7.pc.rd).tr f6.pc.rd).up (sRq_t (by omega))⟩
        · skip
          exact absurd (by assumption) (x6.up (a := 3) 0 0 (by decide)).2.1
    | inr a =>
      rw [hy] at x6
      obtain ⟨xr, x6⟩ : _ = a.1 ∧ OKc M6 a.2 := x6
      obtain ⟨n1, n2, n3, n5, hle6⟩ := nu_T q2 hy
      rw [xr]
      have F6 : Fr sRq m M6 := (F8.tr f7.pc.rd).tr f6.pc.rd
      have hC6 := hC7.f f6
      have ee := fun a k (hz : sTf a k = false) => (f6 a k hz).trans (f7 a k hz)
      have z3 : M6 3 1 = 0 ∧ M6 3 2 = 0 ∧ M6 3 3 = 0 := by rw [ee 3 1 rfl, ee 3 2 rfl, ee 3 3 rfl]; exact y3
      have z4 : ∀ j, j < 12 → M6 4 j = 0 := fun j hj => by rw [ee 4 j rfl]; exact y4 j hj
      have z25 : M6 25 0 = 0 := by rw [ee 25 0 rfl]; exact y25
      have z29 : M6 29 0 = 0 := by rw [ee 29 0 rfl]; exact y29
      have e2 : ((upg f0 1 a.1) 2).toNat = 0 := by rw [upg_ne _ _ (by decide), h0 2 (by decide)]; rfl
      have e3 : ((upg f0 1 a.1) 3).toNat = 0 := by rw [upg_ne _ _ (by decide), h0 3 (by decide)]; rfl
      refine pI (q := 62) dX6_read_59 gfX6_73 k3 rfl rfl ?_
      refine Ev.aload_n (q := 63) dX6_read_62 rfl rfl ?_
      refine cV0v (q := 66) (d' := d + 10) dX6_read_63 mlX6_76 moX6_endLine mvX6_endLine k2 rfl rfl rfl (Nat.le_refl _) rfl rfl rfl (p_X6_endLine tx N a.2 (upg f0 1 a.1) hN (hC6.up _ _ (by decide)) n3 (x6.up _ _ (by decide)) (by rw [e2, e3]; exact RC_start h0 z3 z4 z25 z29 _) (by rw [upg_ne _ _ (by decide), h0 0 (by decide)]; decide)) (fun r81 m81 e81 => ?_)
      obtain ⟨M5, rfl⟩ : ∃ M5, M5 = m81 := ⟨_, rfl⟩
      obtain ⟨x5, f5⟩ := e81
      cases hz : enS tx N a.2 (upg f0 1 a.1) with
      | inl e =>
        rw [hz] at x5
        have x5 : BDc M5 e := x5
        refine Ev.iconst (q := 67) dX6_read_66 ki_0 rfl ?_
        refine istore_n_3 (q := 68) dX6_read_67 rfl rfl rfl ?_
        refine Ev.iload_n (q := 69) dX6_read_68 rfl rfl ?_
        refine Ev.sipush (q := 72) dX6_read_69 kh_900 rfl ?_
        refine Ev.icmp_ge (tgt := 102) (q := 75) dX6_read_72 (by decide) rfl (fun h101 => ?_) (fun h101 => ?_)
        · skip
          omega
        · skip
          refine Ev.aload_n (q := 76) dX6_read_75 rfl rfl ?_
          refine gI (q := 79) dX6_read_76 gfX6_25 k2 rfl rfl ?_
          rw [x5.1]
          refine Ev.if_ne (tgt := 102) (q := 82) dX6_read_79 (by decide) rfl (fun h102 => ?_) (fun h102 => ?_)
          · skip
            refine Ev.aload_n (q := 103) dX6_read_102 rfl rfl ?_
            refine gI (q := 106) dX6_read_103 gfX6_25 k2 rfl rfl ?_
            rw [x5.1]
            refine Ev.if_eq (tgt := 111) (q := 109) dX6_read_106 (by decide) rfl (fun h103 => ?_) (fun h103 => ?_)
            · skip
              exact absurd (by assumption) x5.2.1
            · skip
              refine Ev.iconst (q := 110) dX6_read_109 ki_0 rfl ?_
              refine rZ dX6_read_110 rfl (by decide) ?_
              unfold hoG
              rw [bE_r hx, bE_r hy, bE_l hz]
              exact ⟨⟨rfl, x5⟩, (F6.up (sRq_t (by omega))).tr f5.rd⟩
          · skip
            exact absurd (by assumption) x5.2.1
      | inr b =>
        rw [hz] at x5
        obtain ⟨x5, hR5⟩ : OKc M5 b.1 ∧ RC M5 b.2 (b.2 2).toNat (b.2 3).toNat := x5
        have hLb : LnH tx N b.1 b.2 := by
          have hz' := hz
          unfold enS at hz'
          obtain ⟨t2, g1, g2⟩ := bE_inv hz'
          obtain ⟨-, g3, g4, -⟩ := ea_T n3 (by decide) g1
          cases g2
          have hRH := RH_0 h0 (x := a.1) n2
          refine ⟨⟨g3.ok, hRH.en.1, ?_, ?_⟩, hRH.en, g3⟩
          · dsimp only
            rw [upg_ne _ _ (by decide), upg_ne _ _ (by decide), h0 457 (by decide)]
            show (0 : Int) ≤ 0 ∧ (0 : Int) ≤ _
            omega
          · dsimp only
            rw [upg_eq, upg_ne _ _ (by decide), h0 0 (by decide)]
            show (0 : Int) ≤ 0 + 1 ∧ (0 : Int) + 1 ≤ _
            omega
        have hle5 := tO_le hLb.1.1
        have hpos : 1 ≤ b.1.2.1 := by
          have hz' := hz
          unfold enS at hz'
          obtain ⟨t2, g1, g2⟩ := bE_inv hz'
          obtain ⟨-, -, g4, -⟩ := ea_T n3 (by decide) g1
          cases g2
          dsimp only
          omega
        unfold hoG
        rw [bE_r hx, bE_r hy, bE_r hz]
        refine Ev.iconst (q := 67) dX6_read_66 ki_0 rfl ?_
        refine istore_n_3 (q := 68) dX6_read_67 rfl rfl rfl ?_
        refine lc_read (m0 := m) tx N hN (N + 1) b.1 b.2 M5 0 hLb x5 ((hC6.up _ _ (by decide)).p f5) hR5 (by omega) (by omega) (((F6).up (sRq_t (by omega))).tr f5.rd)
