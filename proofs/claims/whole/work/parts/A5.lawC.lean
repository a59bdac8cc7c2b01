/-! ===== the class: a law's line ===== -/
theorem ps_T {tx : Nat → Int} {N law : Nat} : ∀ (n mode deep : Nat) (t : Tok) (a : List Int × Tok), tT tx N t → psR tx N law n mode deep t = .inr a → tT tx N a.2 := by
  intro n
  induction n with
  | zero => intro mode deep t a hT h; unfold psR at h; cases h; exact hT
  | succ n ih =>
    have two : ∀ (mode mode' deep : Nat) (t : Tok) (a : List Int × Tok) (g : List Int → List Int → List Int), tT tx N t → (bE (psR tx N law n mode deep t) fun a => bE (psR tx N law n mode' deep a.2) fun b => .inr (g a.1 b.1, b.2)) = .inr a → tT tx N a.2 := by
      intro mode mode' deep t a g hT h
      obtain ⟨a1, h1, h⟩ := bE_inv h
      obtain ⟨b, h2, h⟩ := bE_inv h
      cases h
      exact ih _ _ _ b (ih _ _ _ _ hT h1) h2
    intro mode deep t a hT h
    unfold psR at h
    split at h
    · exact two _ _ _ _ _ (fun a b => a ++ b) hT h
    · split at h
      · split at h
        · exact two _ _ _ _ _ (fun a b => a ++ ((if t.1 = 32 then 3000 else 3001) :: b)) hT.nx h
        · cases h; exact hT
      · split at h
        · exact two _ _ _ _ _ (fun a b => a ++ b) hT h
        · split at h
          · split at h
            · exact two _ _ _ _ _ (fun a b => a ++ (3002 :: b)) hT.nx h
            · cases h; exact hT
          · split at h
            · cases h; exact hT.nx
            · split at h
              · cases h; exact hT.nx
              · split at h
                · split at h
                  · cases h
                  · obtain ⟨a1, h1, h⟩ := bE_inv h
                    obtain ⟨t', h2, h⟩ := bE_inv h
                    cases h
                    exact (ea_T (ih _ _ _ _ hT.nx h1) (by decide) h2).2.1
                · cases h
theorem apC_hi : ∀ (cs : List Int) (f : Row), 0 ≤ f 457 → (∀ k, k < cs.length → apC f cs (458 + (f 457).toNat + k) = cs.getD k 0) ∧ ∀ j, j ≠ 457 → j < 458 + (f 457).toNat → apC f cs j = f j := by
  intro cs
  induction cs with
  | nil => intro f hf; exact ⟨fun k hk => absurd hk (Nat.not_lt_zero _), fun j _ _ => rfl⟩
  | cons c cs ih =>
    intro f hf
    have e : upg (upg f (458 + (f 457).toNat) c) 457 (f 457 + 1) 457 = f 457 + 1 := upg_eq _ _ _
    obtain ⟨i1, i2⟩ := ih (upg (upg f (458 + (f 457).toNat) c) 457 (f 457 + 1)) (by rw [e]; omega)
    rw [e, show (f 457 + 1).toNat = (f 457).toNat + 1 by omega] at i1 i2
    refine ⟨fun k hk => ?_, fun j h1 h2 => ?_⟩
    · cases k with
      | zero =>
        show apC (upg (upg f (458 + (f 457).toNat) c) 457 (f 457 + 1)) cs _ = _
        rw [i2 _ (by omega) (by omega), upg_ne _ _ (by omega), Nat.add_zero, upg_eq]
        rfl
      | succ k =>
        show apC (upg (upg f (458 + (f 457).toNat) c) 457 (f 457 + 1)) cs _ = _
        have := i1 k (by rw [List.length_cons] at hk; omega)
        rw [show 458 + ((f 457).toNat + 1) + k = 458 + (f 457).toNat + (k + 1) by omega] at this
        rw [this]
        rfl
    · show apC (upg (upg f (458 + (f 457).toNat) c) 457 (f 457 + 1)) cs _ = _
      rw [i2 j h1 (by omega), upg_ne _ _ h1, upg_ne _ _ (by omega)]
/-- laws told lie behind each other -/
def WB (f : Row) : Prop := ∀ law, law < 2 → f (4 + law) = 1 → 0 ≤ f (6 + law) ∧ 0 ≤ f (8 + law) ∧ f (6 + law) + f (8 + law) ≤ f 457
def lwW (law : Nat) (f : Row) (cs : List Int) : Row := upg (upg (upg (apC f cs) (4 + law) 1) (6 + law) (f 457)) (8 + law) ((apC f cs) 457 - f 457)
theorem lwW_o {law : Nat} {f : Row} {cs : List Int} {j : Nat} (h4 : 0 ≤ f 457) (hj : j ≠ 457) (h1 : j ≠ 4 + law) (h2 : j ≠ 6 + law) (h3 : j ≠ 8 + law) (hb : j < 458 + (f 457).toNat) : lwW law f cs j = f j := by
  unfold lwW
  rw [upg_ne _ _ h3, upg_ne _ _ h2, upg_ne _ _ h1]
  exact (apC_hi cs f h4).2 j hj hb
theorem lwW_4 {law : Nat} {f : Row} {cs : List Int} : lwW law f cs (4 + law) = 1 ∧ lwW law f cs (6 + law) = f 457 ∧ lwW law f cs (8 + law) = (cs.length : Int) := by
  unfold lwW
  refine ⟨?_, ?_, ?_⟩
  · rw [upg_ne _ _ (by omega), upg_ne _ _ (by omega), upg_eq]
  · rw [upg_ne _ _ (by omega), upg_eq]
  · rw [upg_eq, apC_457]; omega
theorem getD_map (g : Int → Int) : ∀ (cs : List Int) (k : Nat), k < cs.length → (cs.map g).getD k 0 = g (cs.getD k 0) := by
  intro cs
  induction cs with
  | nil => intro k hk; exact absurd hk (Nat.not_lt_zero _)
  | cons c cs ih =>
    intro k hk
    cases k with
    | zero => rfl
    | succ k => exact ih k (by rw [List.length_cons] at hk; omega)
theorem WR.new {m : Mem} {f : Row} {law c : Nat} {cs : List Int} (h4 : 0 ≤ f 457) (hl : law < 2) (h : LwR m c (cs.map (codC law)) []) (h0 : m c 0 = 1) : WR m (lwW law f cs) law c := by
  obtain ⟨e1, e2, e3⟩ := @lwW_4 law f cs
  refine ⟨by rw [h0, e1], fun _ => ⟨_, h, by rw [e3, List.length_map], fun k hk => ?_⟩⟩
  rw [List.length_map] at hk
  rw [e2, getD_map _ _ _ hk]
  unfold lwW
  rw [upg_ne _ _ (by omega), upg_ne _ _ (by omega), upg_ne _ _ (by omega), (apC_hi cs f h4).1 k hk]
theorem WR.old {m m' : Mem} {f : Row} {law o c : Nat} {cs : List Int} (h4 : 0 ≤ f 457) (hW : WB f) (hl : law < 2) (ho : o < 2) (hne : o ≠ law) (h : WR m f o c) (h0 : m' c = m c) (h2 : m' (c + 2) = m (c + 2)) (h3 : m' (c + 3) = m (c + 3)) : WR m' (lwW law f cs) o c := by
  have h := h.same h0 h2 h3
  unfold WR
  rw [lwW_o h4 (by omega) (by omega) (by omega) (by omega) (by omega), lwW_o h4 (by omega) (by omega) (by omega) (by omega) (by omega), lwW_o h4 (by omega) (by omega) (by omega) (by omega) (by omega)]
  refine ⟨h.1, fun z => ?_⟩
  obtain ⟨q, q1, q2, q3⟩ := h.2 z
  refine ⟨q, q1, q2, fun k hk => ?_⟩
  have := hW o ho z
  rw [lwW_o h4 (by omega) (by omega) (by omega) (by omega) (by omega)]
  exact q3 k hk
theorem RC.law {m m' : Mem} {f : Row} {L P law c : Nat} {cs : List Int} (h : RC m f L P) (hL : L ≤ 3) (hP : P ≤ 8) (hlc : (law = 0 ∧ c = 25) ∨ (law = 1 ∧ c = 29)) (h4 : 0 ≤ f 457) (hW : WB f) (hf : Fr (sLa c) m m') (hl : LwR m' c (cs.map (codC law)) []) (h0 : m' c 0 = 1) : RC m' (lwW law f cs) L P := by
  obtain ⟨h1, h2, h3, h5, h6, h7⟩ := h
  have ea : ∀ a, a ≠ c → a ≠ c + 2 → a ≠ c + 3 → a ≠ 2 → a ≠ 22 → m' a = m a := fun a z1 z2 z3 z4 z5 => hf.row a (fun k => sLa_f (sTf_f (by omega) (by omega)) (sLb_f (by omega)))
  have eo : ∀ j, j < 4 ∨ (10 ≤ j ∧ j < 457) → lwW law f cs j = f j := fun j hj => lwW_o h4 (by omega) (by omega) (by omega) (by omega) (by omega)
  refine ⟨?_, fun j hj => ?_, fun l hl => ?_, fun p hp => ?_, ?_, ?_⟩
  · rw [ea 3 (by omega) (by omega) (by omega) (by omega) (by omega), eo 0 (by omega), eo 1 (by omega), eo 2 (by omega), eo 3 (by omega)]; exact h1
  · rw [ea 4 (by omega) (by omega) (by omega) (by omega) (by omega), eo _ (by omega)]; exact h2 j hj
  · have := h3 l hl
    unfold LR
    rw [ea 5 (by omega) (by omega) (by omega) (by omega) (by omega), ea 24 (by omega) (by omega) (by omega) (by omega) (by omega), ea 15 (by omega) (by omega) (by omega) (by omega) (by omega), ea 16 (by omega) (by omega) (by omega) (by omega) (by omega), ea 17 (by omega) (by omega) (by omega) (by omega) (by omega), ea 18 (by omega) (by omega) (by omega) (by omega) (by omega), eo _ (by omega), eo _ (by omega), eo _ (by omega), eo _ (by omega), eo _ (by omega), eo _ (by omega)]
    exact this
  · have := h5 p hp
    unfold PR
    rw [ea 6 (by omega) (by omega) (by omega) (by omega) (by omega), ea 7 (by omega) (by omega) (by omega) (by omega) (by omega), ea 8 (by omega) (by omega) (by omega) (by omega) (by omega), ea 9 (by omega) (by omega) (by omega) (by omega) (by omega), ea 19 (by omega) (by omega) (by omega) (by omega) (by omega), ea 20 (by omega) (by omega) (by omega) (by omega) (by omega), ea 21 (by omega) (by omega) (by omega) (by omega) (by omega), eo _ (by omega), eo _ (by omega), eo _ (by omega), eo _ (by omega), eo _ (by omega), eo _ (by omega), eo _ (by omega)]
    exact this
  · rcases hlc with ⟨rfl, rfl⟩ | ⟨rfl, rfl⟩
    · exact WR.new h4 (by decide) hl h0
    · exact h6.old h4 hW (by decide) (by decide) (by decide) (ea _ (by omega) (by omega) (by omega) (by omega) (by omega)) (ea _ (by omega) (by omega) (by omega) (by omega) (by omega)) (ea _ (by omega) (by omega) (by omega) (by omega) (by omega))
  · rcases hlc with ⟨rfl, rfl⟩ | ⟨rfl, rfl⟩
    · exact h7.old h4 hW (by decide) (by decide) (by decide) (ea _ (by omega) (by omega) (by omega) (by omega) (by omega)) (ea _ (by omega) (by omega) (by omega) (by omega) (by omega)) (ea _ (by omega) (by omega) (by omega) (by omega) (by omega))
    · exact WR.new h4 (by decide) hl h0
theorem Fr.lap {c : Nat} {m m' : Mem} (hc : c = 25 ∨ c = 29) (h : Fr (sLa c) m m') : Fr sPc m m' := h.mono (fun a k q => sLa_f (sPc_tf q) (sLb_f (by have := sPc_n q; omega)))
theorem lw_e {tx : Nat → Int} {N law : Nat} {t : Tok} {f : Row} {e : Int × Nat} (h : eaS tx N 31 (nxS tx N t) = .inl e) : bE (lwS tx N law t f) chk = .inl e := by unfold lwS; rw [bE_l h]; rfl
theorem lw_p {tx : Nat → Int} {N law : Nat} {t t1 : Tok} {f : Row} {e : Int × Nat} (h : eaS tx N 31 (nxS tx N t) = .inr t1) (h1 : psR tx N law (6 * N + 12) 0 0 t1 = .inl e) : bE (lwS tx N law t f) chk = .inl e := by unfold lwS; rw [bE_r h, bE_l h1]; rfl
theorem lw_r {tx : Nat → Int} {N law : Nat} {t t1 : Tok} {f : Row} {a : List Int × Tok} (h : eaS tx N 31 (nxS tx N t) = .inr t1) (h1 : psR tx N law (6 * N + 12) 0 0 t1 = .inr a) : bE (lwS tx N law t f) chk = chk (a.2, lwW law f a.1) := by unfold lwS; rw [bE_r h, bE_r h1]; rfl
set_option maxRecDepth 4000 in
theorem p_X6_readLaw {Γ : Gm} {d : Nat} {m : Mem} (tx : Nat → Int) (N : Nat) (t : Tok) (f : Row) (law c : Nat) (fo : Int) (hN : N ≤ 900) (hC : TC m tx N) (hT9 : tT tx N t) (h : OKc m t) (hR : RC m f (f 2).toNat (f 3).toNat) (hRI : RI f) (hZ : ZI f) (hlw : (law = 0 ∧ c = 25 ∧ fo = 1) ∨ (law = 1 ∧ c = 29 ∧ fo = 0)) (h457 : 0 ≤ f 457 ∧ f 457 ≤ t.2.1) (hW : WB f) (h24 : ¬ t.1 = 24) : Ci Γ (d + 7) MX6_readLaw [rv 2, rv c, iv fo] m (fun r m' => PMe m' (bE (lwS tx N law t f) chk) ∧ Fr sPc m m') := by
  refine Ci.of moX6_readLaw rfl rfl (fun hA hM => ?_)
  show Em Γ (d + 7) MX6_readLaw _ 0 [rv 2, rv c, iv fo, uv, uv] [] m
  obtain ⟨hR1, hR2, hR3⟩ := hRI
  have hc : c ∈ lawC := by rcases hlw with ⟨-, rfl, -⟩ | ⟨-, rfl, -⟩ <;> decide
  have hx1 := nx_lt hT9.ok h24
  obtain ⟨lwK, lwr2, lwr3, lwr5, lwK1, lwK2, lwK3, lwN⟩ := lawK c hc
  refine Ev.aload_n (q := 1) dX6_readLaw_0 rfl rfl ?_
  refine gR (q := 4) dX6_readLaw_1 gfX6_35 k2 r2_4 rfl rfl ?_
  refine cV0v (q := 7) (d' := d + 6) dX6_readLaw_4 mlX6_132 moX8_next mvX8_next k22 rfl rfl rfl (Nat.le_refl _) rfl rfl rfl (p_X8_next tx N t.2.2.1 hN hC hT9.ok.2.1 h.2.2.2.1) (fun r1 m1 e1 => ?_)
  obtain ⟨M9, rfl⟩ : ∃ M9, M9 = m1 := ⟨_, rfl⟩
  obtain ⟨y1, y2⟩ := e1
  have x9 : OKc M9 (nxS tx N t) := OKc_nx h.1 y1 y2
  have f9 := y2.tf
  have hC9 := hC.f f9
  have hR9 := hR.tf f9
  have hT99 := hT9.nx
  refine Ev.aload_n (q := 8) dX6_readLaw_7 rfl rfl ?_
  refine Ev.bipush (q := 10) dX6_readLaw_8 kb_58 rfl ?_
  refine cV1v (q := 13) (d' := d + 6) dX6_readLaw_10 mlX6_122 moX6_expectSign mvX6_expectSign k2 rfl rfl rfl (Nat.le_refl _) rfl rfl rfl (p_X6_expectSign tx N (nxS tx N t) 58 31 hN hC9 hT99 x9 (by decide)) (fun r2 m2 e2 => ?_)
  obtain ⟨M8, rfl⟩ : ∃ M8, M8 = m2 := ⟨_, rfl⟩
  obtain ⟨x8, f8⟩ := e2
  cases hea : eaS tx N 31 (nxS tx N t) with
  | inl e =>
    rw [hea] at x8
    have x8 : BDc M8 e := x8
    refine Ev.aload_n (q := 14) dX6_readLaw_13 rfl rfl ?_
    refine cV0v (q := 17) (d' := d + 6) dX6_readLaw_14 mlX6_212 moX2_begin mvX2_begin lwK rfl rfl rfl (Nat.le_refl _) rfl rfl rfl (p_X2_begin c hc) (fun r31 m31 e31 => ?_)
    obtain ⟨M7, rfl⟩ : ∃ M7, M7 = m31 := ⟨_, rfl⟩
    obtain ⟨z1, z2, z3, z4⟩ := e31
    refine Ev.iconst (q := 18) dX6_readLaw_17 ki_1 rfl ?_
    refine istore_n_3 (q := 19) dX6_readLaw_18 rfl rfl rfl ?_
    refine Ev.iconst (q := 20) dX6_readLaw_19 ki_0 rfl ?_
    refine istore_4 (q := 22) dX6_readLaw_20 rfl rfl rfl ?_
    have hI9 : LI5 M7 c [] [] 0 := ⟨z1, z3, z2⟩
    rw [lw_e hea]
    exact stepB (m0 := m) (Po := fun r m' => BDc m' e ∧ Fr sPc m m') hc (x8.lb lwN z4) hI9 (by simp) (by simp) ((f9.tr f8).la1.tr z4.la2) (fun m' b1 b2 => ⟨b1, b2.lap lwN⟩)
  | inr t1 =>
    rw [hea] at x8
    have x8 : OKc M8 t1 := x8
    obtain ⟨q1, q2, q3, q4⟩ := ea_T hT99 (by decide) hea
    refine Ev.aload_n (q := 14) dX6_readLaw_13 rfl rfl ?_
    refine cV0v (q := 17) (d' := d + 6) dX6_readLaw_14 mlX6_212 moX2_begin mvX2_begin lwK rfl rfl rfl (Nat.le_refl _) rfl rfl rfl (p_X2_begin c hc) (fun r31 m31 e31 => ?_)
    obtain ⟨M7, rfl⟩ : ∃ M7, M7 = m31 := ⟨_, rfl⟩
    obtain ⟨z1, z2, z3, z4⟩ := e31
    refine Ev.iconst (q := 18) dX6_readLaw_17 ki_1 rfl ?_
    refine istore_n_3 (q := 19) dX6_readLaw_18 rfl rfl rfl ?_
    refine Ev.iconst (q := 20) dX6_readLaw_19 ki_0 rfl ?_
    refine istore_4 (q := 22) dX6_readLaw_20 rfl rfl rfl ?_
    have hI9 : LI5 M7 c [] [] 0 := ⟨z1, z3, z2⟩
    have F9 : Fr (sLa c) m M7 := (f9.tr f8).la1.tr z4.la2
    have hv9 : InvL m tx N c t1 [] [] 0 0 M7 := ⟨x8.lb lwN z4, q2, (hC9.f f8).lb lwN z4, hI9, by omega, by simp, by simp; omega, by omega, fun z => absurd z (by omega), F9⟩
    refine (sim_all (Γ := Γ) (D := d) (c := c) (law := law) (fo := fo) (m0 := m) (Po := fun r m' => PMe m' (bE (lwS tx N law t f) chk) ∧ Fr sPc m m') (tx := tx) (N := N) hlw hN (6 * N + 12)).2.2.2.2 0 t1 [] [] 0 M7 (Or.inl rfl) (by simp) hv9 (by omega) ?_ ?_
    · intro e he M due k cs s deep hb hI hs hcs hF
      refine stepB (m0 := m) hc hb hI hs hcs hF (fun m' b1 b2 => ?_)
      rw [lw_p hea he]
      exact ⟨b1, b2.lap lwN⟩
    · intro cs1 t' he k' M' cs' pl' pa' hm ha hcat hv
      rw [lw_r hea he]
      rw [List.append_nil] at hv
      by_cases h30 : t'.1 = 30
      · refine stepE (m0 := m) hc hN hv rfl h30 (fun m' b1 b2 b3 b4 => ?_)
        rw [hcat, List.nil_append] at b1
        rw [chk_y h30]
        have hR' := RC.law hR (by omega) (by omega) (by omega) h457.1 hW b4 b1 b3
        refine ⟨⟨b2, ?_⟩, b4.lap lwN⟩
        dsimp only
        rw [lwW_o h457.1 (by omega) (by omega) (by omega) (by omega) (by omega), lwW_o h457.1 (by omega) (by omega) (by omega) (by omega) (by omega)]
        exact hR'
      · have hend := ps_end (6 * N + 12) 0 0 t1 cs1 t' (by omega) (by omega) q2.ok (by simp only [if_true]; omega) he
        have hend2 := hend.2 (by omega)
        refine stepJ (m0 := m) hc hN hv (fun z => h30 z.2) (fun r m' hp => ?_)
        obtain ⟨-, -, -, -, j5, jF⟩ := hp
        obtain ⟨rfl, u1, u2⟩ := j5 (fun z => absurd z.1 (by omega)) hend2.1 hend2.2 hend.1
        obtain ⟨v1, v2, v3, v4, v5, v6, v7, v8, v9, v10⟩ := hv
        have := tO_le v2.ok
        refine stepB (m0 := m) hc u1 u2 (by omega) (by omega) (v10.tr jF) (fun m' b1 b2 => ?_)
        rw [chk_n h30]
        exact ⟨b1, b2.lap lwN⟩
