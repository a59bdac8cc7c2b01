/-! ===== the class: lifts, people, calls as lines ===== -/
/-- behind a lift, a person or a law: a line ends there -/
def chk (a : Tok × Row) : Er (Tok × Row) := if a.1.1 = 30 then .inr a else flS a.1 2
/-- what is 0 unless it was told -/
def ZI (f : Row) : Prop := (∀ l, l < 3 → f (63 + l) = 0 ∧ (f 2 ≤ l → f (66 + l) = 0)) ∧ (∀ p, p < 8 → f (80 + p) = 0 ∧ (f 3 ≤ p → f (36 + p) = 0 ∧ f (44 + p) = 0))
theorem RC.mono {m : Mem} {f : Row} {L P L' P' : Nat} (h : RC m f L P) (h1 : L' ≤ L) (h2 : P' ≤ P) : RC m f L' P' := ⟨h.1, h.2.1, fun l hl => h.2.2.1 l (by omega), fun p hp => h.2.2.2.1 p (by omega), h.2.2.2.2⟩
theorem RC.n {m : Mem} {f : Row} {L P : Nat} (h : RC m f L P) {k j : Nat} {x : Int} (hk : (k = 0 ∧ j = 1) ∨ (k = 1 ∧ j = 0) ∨ (k = 2 ∧ j = 2) ∨ (k = 3 ∧ j = 3)) : RC (up m 3 k x) (upg f j x) L P := by
  obtain ⟨⟨a0, a1, a2, a3⟩, h2, h3, h4, h5, h6⟩ := h
  refine ⟨⟨?_, ?_, ?_, ?_⟩, fun j hj => ?_, fun l hl => ?_, fun p hp => ?_, ?_, ?_⟩
  · rcases hk with ⟨rfl, rfl⟩ | ⟨rfl, rfl⟩ | ⟨rfl, rfl⟩ | ⟨rfl, rfl⟩ <;> first | rw [up_eq, upg_eq] | (rw [up_k _ _ (by decide), upg_ne _ _ (by decide)]; exact a0)
  · rcases hk with ⟨rfl, rfl⟩ | ⟨rfl, rfl⟩ | ⟨rfl, rfl⟩ | ⟨rfl, rfl⟩ <;> first | rw [up_eq, upg_eq] | (rw [up_k _ _ (by decide), upg_ne _ _ (by decide)]; exact a1)
  · rcases hk with ⟨rfl, rfl⟩ | ⟨rfl, rfl⟩ | ⟨rfl, rfl⟩ | ⟨rfl, rfl⟩ <;> first | rw [up_eq, upg_eq] | (rw [up_k _ _ (by decide), upg_ne _ _ (by decide)]; exact a2)
  · rcases hk with ⟨rfl, rfl⟩ | ⟨rfl, rfl⟩ | ⟨rfl, rfl⟩ | ⟨rfl, rfl⟩ <;> first | rw [up_eq, upg_eq] | (rw [up_k _ _ (by decide), upg_ne _ _ (by decide)]; exact a3)
  · rw [up_o _ _ (by decide), upg_ne _ _ (by omega)]; exact h2 j hj
  · have := h3 l hl
    unfold LR
    rw [up_o _ _ (by decide), up_o _ _ (by decide), up_o _ _ (by decide), up_o _ _ (by decide), up_o _ _ (by decide), up_o _ _ (by decide), upg_ne _ _ (by omega), upg_ne _ _ (by omega), upg_ne _ _ (by omega), upg_ne _ _ (by omega), upg_ne _ _ (by omega), upg_ne _ _ (by omega)]
    exact this
  · have := h4 p hp
    unfold PR
    rw [up_o _ _ (by decide), up_o _ _ (by decide), up_o _ _ (by decide), up_o _ _ (by decide), up_o _ _ (by decide), up_o _ _ (by decide), up_o _ _ (by decide), upg_ne _ _ (by omega), upg_ne _ _ (by omega), upg_ne _ _ (by omega), upg_ne _ _ (by omega), upg_ne _ _ (by omega), upg_ne _ _ (by omega), upg_ne _ _ (by omega)]
    exact this
  · unfold WR
    rw [upg_ne _ _ (by omega), upg_ne _ _ (by omega), upg_ne _ _ (by omega), up_o _ _ (by omega)]
    refine ⟨h5.1, fun z => ?_⟩
    obtain ⟨cs, q1, q2, q3⟩ := h5.2 z
    exact ⟨cs, q1.cod (by rw [up_o _ _ (by omega)]) (by rw [up_na _ _ (by omega)]) (by rw [up_o _ _ (by omega)]) (by rw [up_na _ _ (by omega)]), q2, fun k hk => by rw [upg_ne _ _ (by omega)]; exact q3 k hk⟩
  · unfold WR
    rw [upg_ne _ _ (by omega), upg_ne _ _ (by omega), upg_ne _ _ (by omega), up_o _ _ (by omega)]
    refine ⟨h6.1, fun z => ?_⟩
    obtain ⟨cs, q1, q2, q3⟩ := h6.2 z
    exact ⟨cs, q1.cod (by rw [up_o _ _ (by omega)]) (by rw [up_na _ _ (by omega)]) (by rw [up_o _ _ (by omega)]) (by rw [up_na _ _ (by omega)]), q2, fun k hk => by rw [upg_ne _ _ (by omega)]; exact q3 k hk⟩
theorem chk_y {a : Tok × Row} (h : a.1.1 = 30) : chk a = .inr a := by unfold chk; rw [if_pos h]
theorem chk_n {a : Tok × Row} (h : ¬ a.1.1 = 30) : chk a = flS a.1 2 := by unfold chk; rw [if_neg h]
theorem lf1_30 {tx : Nat → Int} {N l : Nat} {t : Tok} {f : Row} (h : t.1 = 30) : lf1 tx N l t f = none := by unfold lf1; rw [if_neg (by omega), if_neg (by omega), if_neg (by omega), if_neg (by omega)]
theorem pf1_30 {tx : Nat → Int} {N p : Nat} {t : Tok} {f : Row} (h : t.1 = 30) : pf1 tx N p t f = none := by unfold pf1; rw [if_neg (by omega), if_neg (by omega), if_neg (by omega), if_neg (by omega), if_neg (by omega)]
theorem lf1_T {tx : Nat → Int} {N l : Nat} {t : Tok} {f : Row} {a : Tok × Row} (hT : tT tx N t) (hR : RI f) (h : lf1 tx N l t f = some (.inr a)) : tT tx N a.1 := by
  unfold lf1 at h
  repeat' split at h
  all_goals first | (cases h; done) | skip
  all_goals injection h with h
  · obtain ⟨b, h1, h⟩ := bE_inv h; cases h; exact (nu_T hT.nx h1).2.2.1
  · obtain ⟨b, h1, h⟩ := bE_inv h; cases h; exact (nu_T hT.nx h1).2.2.1
  · obtain ⟨b, h1, h⟩ := bE_inv h
    cases h
    have key : ∀ (n s : Nat) (t : Tok) (b : Nat × Tok), tT tx N t → N - t.2.1 + 1 ≤ n → litR tx N (f (60 + l)) (f 1 - 1) n s t = .inr b → tT tx N b.2 := by
      intro n
      induction n with
      | zero => intro s t b _ hn; omega
      | succ n ih =>
        intro s t b hT hn h
        by_cases hw : t.1 = 23 ∧ t.2.2.2 = f (60 + l)
        · rw [litR_own hw] at h; cases h
        · cases hx : nuS tx N 0 (f 1 - 1) t with
          | inl e => rw [litR_el hw hx] at h; cases h
          | inr c =>
            obtain ⟨n1, n2, n3, n4, n5⟩ := nu_T hT hx
            rw [litR_r hw hx] at h
            split at h
            · exact ih _ _ _ n3 (by omega) h
            · cases h; exact n3
    exact key (N + 1) 0 _ b hT.nx (by have := tO_le hT.nx.ok; omega) h1
  · cases h; exact hT.nx
theorem pf1_T {tx : Nat → Int} {N p : Nat} {t : Tok} {f : Row} {a : Tok × Row} (hT : tT tx N t) (h : pf1 tx N p t f = some (.inr a)) : tT tx N a.1 := by
  unfold pf1 at h
  repeat' split at h
  all_goals first | (cases h; done) | skip
  all_goals
    injection h with h
    obtain ⟨b, h1, h⟩ := bE_inv h
    cases h
    exact (nu_T hT.nx h1).2.2.1
/-- what a line leaves -/
def PMe (m : Mem) (x : Er (Tok × Row)) : Prop := match x with
  | .inl e => BDc m e
  | .inr a => OKc m a.1 ∧ RC m a.2 (a.2 2).toNat (a.2 3).toNat
set_option maxRecDepth 4000 in
theorem lc_X6_readLift {Γ : Gm} {d : Nat} {m0 : Mem} (tx : Nat → Int) (N l P : Nat) (hN : N ≤ 900) (hl : l < 3) (hO8 : P ≤ 8) : ∀ (n : Nat) (t : Tok) (f : Row) (M : Mem) (k : Nat), OKc M t → tT tx N t → TC M tx N → RC M f (l + 1) P → RI f → f 2 = l → f 3 = (P : Int) → N - t.2.1 + 1 ≤ n → k + 1 ≤ t.2.1 → Fr sPc m0 M → Em Γ (d + 8) MX6_readLift (fun r m' => PMe m' (bE (bE (lfR tx N l n t f) fun b => .inr (b.1, upg b.2 2 (b.2 2 + 1))) chk) ∧ Fr sPc m0 m') 111 [rv 2, iv l, iv k] [] M := by
  intro n
  induction n with
  | zero => intro t f M k h hT9 hC hR hRI hl9 ho9 hn; omega
  | succ n ih =>
    intro t f M k h hT9 hC hR hRI hl9 ho9 hn hk hF
    have hle := tO_le hT9.ok
    refine Ev.iload_n (q := 112) dX6_readLift_111 rfl rfl ?_
    refine Ev.sipush (q := 115) dX6_readLift_112 kh_900 rfl ?_
    refine Ev.icmp_ge (tgt := 148) (q := 118) dX6_readLift_115 (by decide) rfl (fun h1 => ?_) (fun h1 => ?_)
    · skip
      omega
    · skip
      refine Ev.aload_n (q := 119) dX6_readLift_118 rfl rfl ?_
      refine gI (q := 122) dX6_readLift_119 gfX6_25 k2 rfl rfl ?_
      first | rw [h.1] | rw [h.1.1]
      refine Ev.if_ne (tgt := 148) (q := 125) dX6_readLift_122 (by decide) rfl (fun h2 => ?_) (fun h2 => ?_)
      · skip
        omega
      · skip
        refine Ev.aload_n (q := 126) dX6_readLift_125 rfl rfl ?_
        refine gR (q := 129) dX6_readLift_126 gfX6_35 k2 r2_4 rfl rfl ?_
        refine Ev.bipush (q := 131) dX6_readLift_129 kb_59 rfl ?_
        refine cV1i (q := 134) (d' := d + 7) dX6_readLift_131 mlX6_152 moX8_isSign mvX8_isSign k22 rfl rfl rfl (Nat.le_refl _) rfl rfl rfl (p_X8_isSign tx N t 59 30 hN hC hT9 h.2 (by decide)) (fun r3 m3 e3 => ?_)
        obtain ⟨rfl, e3⟩ := e3
        obtain rfl := e3.symm
        refine Ev.if_ne (tgt := 148) (q := 137) dX6_readLift_134 (by decide) rfl (fun h4 => ?_) (fun h4 => ?_)
        · skip
          have h30 : t.1 = 30 := by split at h4 <;> omega
          have hps : (bE (bE (lfR tx N l (n + 1) t f) fun b => (.inr (b.1, upg b.2 2 (b.2 2 + 1)) : Er (Tok × Row))) chk) = .inr (t, upg f 2 (f 2 + 1)) := by rw [lfR_1, lf1_30 h30]; exact chk_y h30
          refine Ev.aload_n (q := 149) dX6_readLift_148 rfl rfl ?_
          refine gR (q := 152) dX6_readLift_149 gfX6_12 k2 r2_0 rfl rfl ?_
          refine Ev.dup (q := 153) dX6_readLift_152 (fun z => by cases z) rfl ?_
          refine gI (q := 156) dX6_readLift_153 gfX6_129 k3 rfl rfl ?_
          rw [hR.1.2.2.1, hl9]
          refine Ev.iconst (q := 157) dX6_readLift_156 ki_1 rfl ?_
          refine Ev.iadd (q := 158) dX6_readLift_157 rfl ?_
          refine pI (q := 161) dX6_readLift_158 gfX6_129 k3 rfl rfl ?_
          refine rV dX6_readLift_161 rfl ?_
          rw [w32_of (by omega) (by omega), hps]
          have h9 := hR.n (k := 2) (j := 2) (x := (l : Int) + 1) (by omega)
          refine ⟨⟨h.up _ _ (by decide), ?_⟩, hF.up (pc_t (by omega))⟩
          dsimp only
          rw [upg_eq, upg_ne _ _ (by decide), hl9, show ((l : Int) + 1).toNat = l + 1 by omega, ho9, Int.toNat_natCast]
          exact h9
        · skip
          have h30 : ¬ t.1 = 30 := by split at h4 <;> omega
          refine Ev.aload_n (q := 138) dX6_readLift_137 rfl rfl ?_
          refine Ev.iload_n (q := 139) dX6_readLift_138 rfl rfl ?_
          refine cV1v (q := 142) (d' := d + 7) dX6_readLift_139 mlX6_156 moX6_readLiftFlag mvX6_readLiftFlag k2 rfl rfl rfl (Nat.le_refl _) rfl rfl rfl (p_X6_readLiftFlag tx N t f (l + 1) P l hN hC hT9 h hR hRI.1 (by omega) (by omega) (by omega)) (fun r5 m5 e5 => ?_)
          obtain ⟨M8, rfl⟩ : ∃ M8, M8 = m5 := ⟨_, rfl⟩
          obtain ⟨x8, f8⟩ := e5
          cases hx : lf1 tx N l t f with
          | none =>
            rw [hx] at x8
            have x8 : BDc M8 ((if t.1 = 25 then 1 else 2), t.2.1) := x8
            have hps : (bE (bE (lfR tx N l (n + 1) t f) fun b => (.inr (b.1, upg b.2 2 (b.2 2 + 1)) : Er (Tok × Row))) chk) = .inl ((if t.1 = 25 then 1 else 2), t.2.1) := by rw [lfR_1, hx]; exact chk_n h30
            refine iinc_2 (q := 145) dX6_readLift_142 rfl rfl rfl ?_
            refine Ev.goto (q := 111) dX6_readLift_145 (by decide) ?_
            refine Ev.iload_n (q := 112) dX6_readLift_111 rfl rfl ?_
            refine Ev.sipush (q := 115) dX6_readLift_112 kh_900 rfl ?_
            refine Ev.icmp_ge (tgt := 148) (q := 118) dX6_readLift_115 (by decide) rfl (fun h61 => ?_) (fun h61 => ?_)
            · skip
              refine Ev.aload_n (q := 149) dX6_readLift_148 rfl rfl ?_
              refine gR (q := 152) dX6_readLift_149 gfX6_12 k2 r2_0 rfl rfl ?_
              refine Ev.dup (q := 153) dX6_readLift_152 (fun z => by cases z) rfl ?_
              refine gI (q := 156) dX6_readLift_153 gfX6_129 k3 rfl rfl ?_
              refine Ev.iconst (q := 157) dX6_readLift_156 ki_1 rfl ?_
              refine Ev.iadd (q := 158) dX6_readLift_157 rfl ?_
              refine pI (q := 161) dX6_readLift_158 gfX6_129 k3 rfl rfl ?_
              refine rV dX6_readLift_161 rfl ?_
              rw [hps]
              exact ⟨x8.up _ _ (by decide), (hF.tr f8).up (pc_t (by omega))⟩
            · skip
              refine Ev.aload_n (q := 119) dX6_readLift_118 rfl rfl ?_
              refine gI (q := 122) dX6_readLift_119 gfX6_25 k2 rfl rfl ?_
              first | rw [x8.1] | rw [x8.1.1]
              refine Ev.if_ne (tgt := 148) (q := 125) dX6_readLift_122 (by decide) rfl (fun h62 => ?_) (fun h62 => ?_)
              · skip
                refine Ev.aload_n (q := 149) dX6_readLift_148 rfl rfl ?_
                refine gR (q := 152) dX6_readLift_149 gfX6_12 k2 r2_0 rfl rfl ?_
                refine Ev.dup (q := 153) dX6_readLift_152 (fun z => by cases z) rfl ?_
                refine gI (q := 156) dX6_readLift_153 gfX6_129 k3 rfl rfl ?_
                refine Ev.iconst (q := 157) dX6_readLift_156 ki_1 rfl ?_
                refine Ev.iadd (q := 158) dX6_readLift_157 rfl ?_
                refine pI (q := 161) dX6_readLift_158 gfX6_129 k3 rfl rfl ?_
                refine rV dX6_readLift_161 rfl ?_
                rw [hps]
                exact ⟨x8.up _ _ (by decide), (hF.tr f8).up (pc_t (by omega))⟩
              · skip
                exact absurd (by assumption) x8.2.1
          | some x =>
            cases x with
            | inl e =>
              rw [hx] at x8
              have x8 : BDc M8 e := x8
              have hps : (bE (bE (lfR tx N l (n + 1) t f) fun b => (.inr (b.1, upg b.2 2 (b.2 2 + 1)) : Er (Tok × Row))) chk) = .inl e := by rw [lfR_1, hx]; rfl
              refine iinc_2 (q := 145) dX6_readLift_142 rfl rfl rfl ?_
              refine Ev.goto (q := 111) dX6_readLift_145 (by decide) ?_
              refine Ev.iload_n (q := 112) dX6_readLift_111 rfl rfl ?_
              refine Ev.sipush (q := 115) dX6_readLift_112 kh_900 rfl ?_
              refine Ev.icmp_ge (tgt := 148) (q := 118) dX6_readLift_115 (by decide) rfl (fun h61 => ?_) (fun h61 => ?_)
              · skip
                refine Ev.aload_n (q := 149) dX6_readLift_148 rfl rfl ?_
                refine gR (q := 152) dX6_readLift_149 gfX6_12 k2 r2_0 rfl rfl ?_
                refine Ev.dup (q := 153) dX6_readLift_152 (fun z => by cases z) rfl ?_
                refine gI (q := 156) dX6_readLift_153 gfX6_129 k3 rfl rfl ?_
                refine Ev.iconst (q := 157) dX6_readLift_156 ki_1 rfl ?_
                refine Ev.iadd (q := 158) dX6_readLift_157 rfl ?_
                refine pI (q := 161) dX6_readLift_158 gfX6_129 k3 rfl rfl ?_
                refine rV dX6_readLift_161 rfl ?_
                rw [hps]
                exact ⟨x8.up _ _ (by decide), (hF.tr f8).up (pc_t (by omega))⟩
              · skip
                refine Ev.aload_n (q := 119) dX6_readLift_118 rfl rfl ?_
                refine gI (q := 122) dX6_readLift_119 gfX6_25 k2 rfl rfl ?_
                first | rw [x8.1] | rw [x8.1.1]
                refine Ev.if_ne (tgt := 148) (q := 125) dX6_readLift_122 (by decide) rfl (fun h62 => ?_) (fun h62 => ?_)
                · skip
                  refine Ev.aload_n (q := 149) dX6_readLift_148 rfl rfl ?_
                  refine gR (q := 152) dX6_readLift_149 gfX6_12 k2 r2_0 rfl rfl ?_
                  refine Ev.dup (q := 153) dX6_readLift_152 (fun z => by cases z) rfl ?_
                  refine gI (q := 156) dX6_readLift_153 gfX6_129 k3 rfl rfl ?_
                  refine Ev.iconst (q := 157) dX6_readLift_156 ki_1 rfl ?_
                  refine Ev.iadd (q := 158) dX6_readLift_157 rfl ?_
                  refine pI (q := 161) dX6_readLift_158 gfX6_129 k3 rfl rfl ?_
                  refine rV dX6_readLift_161 rfl ?_
                  rw [hps]
                  exact ⟨x8.up _ _ (by decide), (hF.tr f8).up (pc_t (by omega))⟩
                · skip
                  exact absurd (by assumption) x8.2.1
            | inr a =>
              rw [hx] at x8
              obtain ⟨x8, hR8⟩ : OKc M8 a.1 ∧ RC M8 a.2 (l + 1) P := x8
              have q := lf1_ok hT9.ok hRI hx
              have hle2 := tO_le q.1
              have hps : (bE (bE (lfR tx N l (n + 1) t f) fun b => (.inr (b.1, upg b.2 2 (b.2 2 + 1)) : Er (Tok × Row))) chk) = (bE (bE (lfR tx N l n a.1 a.2) fun b => .inr (b.1, upg b.2 2 (b.2 2 + 1))) chk) := by rw [lfR_1, hx]; rfl
              rw [hps]
              refine iinc_2 (q := 145) dX6_readLift_142 rfl rfl rfl ?_
              refine Ev.goto (q := 111) dX6_readLift_145 (by decide) ?_
              rw [w32_of (by omega) (by omega)]
              exact ih a.1 a.2 M8 (k + 1) x8 (lf1_T hT9 hRI hx) (hC.p f8) hR8 q.2.2.1 (by rw [q.2.2.2.1]; exact hl9) (by rw [lf1_kp (by omega) hx 3 (by omega) (by omega)]; exact ho9) (by omega) (by omega) (hF.tr f8)
set_option maxRecDepth 4000 in
theorem lc_X6_readPerson {Γ : Gm} {d : Nat} {m0 : Mem} (tx : Nat → Int) (N p L : Nat) (hN : N ≤ 900) (hl : p < 8) (hO8 : L ≤ 3) : ∀ (n : Nat) (t : Tok) (f : Row) (M : Mem) (k : Nat), OKc M t → tT tx N t → TC M tx N → RC M f L (p + 1) → RI f → f 3 = p → f 2 = (L : Int) → N - t.2.1 + 1 ≤ n → k + 1 ≤ t.2.1 → Fr sPc m0 M → Em Γ (d + 8) MX6_readPerson (fun r m' => PMe m' (bE (bE (pfR tx N p n t f) fun b => .inr (b.1, upg b.2 3 (b.2 3 + 1))) chk) ∧ Fr sPc m0 m') 124 [rv 2, iv p, iv k] [] M := by
  intro n
  induction n with
  | zero => intro t f M k h hT9 hC hR hRI hl9 ho9 hn; omega
  | succ n ih =>
    intro t f M k h hT9 hC hR hRI hl9 ho9 hn hk hF
    have hle := tO_le hT9.ok
    refine Ev.iload_n (q := 125) dX6_readPerson_124 rfl rfl ?_
    refine Ev.sipush (q := 128) dX6_readPerson_125 kh_900 rfl ?_
    refine Ev.icmp_ge (tgt := 161) (q := 131) dX6_readPerson_128 (by decide) rfl (fun h1 => ?_) (fun h1 => ?_)
    · skip
      omega
    · skip
      refine Ev.aload_n (q := 132) dX6_readPerson_131 rfl rfl ?_
      refine gI (q := 135) dX6_readPerson_132 gfX6_25 k2 rfl rfl ?_
      first | rw [h.1] | rw [h.1.1]
      refine Ev.if_ne (tgt := 161) (q := 138) dX6_readPerson_135 (by decide) rfl (fun h2 => ?_) (fun h2 => ?_)
      · skip
        omega
      · skip
        refine Ev.aload_n (q := 139) dX6_readPerson_138 rfl rfl ?_
        refine gR (q := 142) dX6_readPerson_139 gfX6_35 k2 r2_4 rfl rfl ?_
        refine Ev.bipush (q := 144) dX6_readPerson_142 kb_59 rfl ?_
        refine cV1i (q := 147) (d' := d + 7) dX6_readPerson_144 mlX6_152 moX8_isSign mvX8_isSign k22 rfl rfl rfl (Nat.le_refl _) rfl rfl rfl (p_X8_isSign tx N t 59 30 hN hC hT9 h.2 (by decide)) (fun r3 m3 e3 => ?_)
        obtain ⟨rfl, e3⟩ := e3
        obtain rfl := e3.symm
        refine Ev.if_ne (tgt := 161) (q := 150) dX6_readPerson_147 (by decide) rfl (fun h4 => ?_) (fun h4 => ?_)
        · skip
          have h30 : t.1 = 30 := by split at h4 <;> omega
          have hps : (bE (bE (pfR tx N p (n + 1) t f) fun b => (.inr (b.1, upg b.2 3 (b.2 3 + 1)) : Er (Tok × Row))) chk) = .inr (t, upg f 3 (f 3 + 1)) := by rw [pfR_1, pf1_30 h30]; exact chk_y h30
          refine Ev.aload_n (q := 162) dX6_readPerson_161 rfl rfl ?_
          refine gR (q := 165) dX6_readPerson_162 gfX6_12 k2 r2_0 rfl rfl ?_
          refine Ev.dup (q := 166) dX6_readPerson_165 (fun z => by cases z) rfl ?_
          refine gI (q := 169) dX6_readPerson_166 gfX6_174 k3 rfl rfl ?_
          rw [hR.1.2.2.2, hl9]
          refine Ev.iconst (q := 170) dX6_readPerson_169 ki_1 rfl ?_
          refine Ev.iadd (q := 171) dX6_readPerson_170 rfl ?_
          refine pI (q := 174) dX6_readPerson_171 gfX6_174 k3 rfl rfl ?_
          refine rV dX6_readPerson_174 rfl ?_
          rw [w32_of (by omega) (by omega), hps]
          have h9 := hR.n (k := 3) (j := 3) (x := (p : Int) + 1) (by omega)
          refine ⟨⟨h.up _ _ (by decide), ?_⟩, hF.up (pc_t (by omega))⟩
          dsimp only
          rw [upg_eq, upg_ne _ _ (by decide), hl9, show ((p : Int) + 1).toNat = p + 1 by omega, ho9, Int.toNat_natCast]
          exact h9
        · skip
          have h30 : ¬ t.1 = 30 := by split at h4 <;> omega
          refine Ev.aload_n (q := 151) dX6_readPerson_150 rfl rfl ?_
          refine Ev.iload_n (q := 152) dX6_readPerson_151 rfl rfl ?_
          refine cV1v (q := 155) (d' := d + 7) dX6_readPerson_152 mlX6_199 moX6_readPersonFlag mvX6_readPersonFlag k2 rfl rfl rfl (Nat.le_refl _) rfl rfl rfl (p_X6_readPersonFlag tx N t f L (p + 1) p hN hC hT9 h hR hRI.1 (by omega) (by omega) (by omega) ho9) (fun r5 m5 e5 => ?_)
          obtain ⟨M8, rfl⟩ : ∃ M8, M8 = m5 := ⟨_, rfl⟩
          obtain ⟨x8, f8⟩ := e5
          cases hx : pf1 tx N p t f with
          | none =>
            rw [hx] at x8
            have x8 : BDc M8 ((if t.1 = 25 then 1 else 2), t.2.1) := x8
            have hps : (bE (bE (pfR tx N p (n + 1) t f) fun b => (.inr (b.1, upg b.2 3 (b.2 3 + 1)) : Er (Tok × Row))) chk) = .inl ((if t.1 = 25 then 1 else 2), t.2.1) := by rw [pfR_1, hx]; exact chk_n h30
            refine iinc_2 (q := 158) dX6_readPerson_155 rfl rfl rfl ?_
            refine Ev.goto (q := 124) dX6_readPerson_158 (by decide) ?_
            refine Ev.iload_n (q := 125) dX6_readPerson_124 rfl rfl ?_
            refine Ev.sipush (q := 128) dX6_readPerson_125 kh_900 rfl ?_
            refine Ev.icmp_ge (tgt := 161) (q := 131) dX6_readPerson_128 (by decide) rfl (fun h61 => ?_) (fun h61 => ?_)
            · skip
              refine Ev.aload_n (q := 162) dX6_readPerson_161 rfl rfl ?_
              refine gR (q := 165) dX6_readPerson_162 gfX6_12 k2 r2_0 rfl rfl ?_
              refine Ev.dup (q := 166) dX6_readPerson_165 (fun z => by cases z) rfl ?_
              refine gI (q := 169) dX6_readPerson_166 gfX6_174 k3 rfl rfl ?_
              refine Ev.iconst (q := 170) dX6_readPerson_169 ki_1 rfl ?_
              refine Ev.iadd (q := 171) dX6_readPerson_170 rfl ?_
              refine pI (q := 174) dX6_readPerson_171 gfX6_174 k3 rfl rfl ?_
              refine rV dX6_readPerson_174 rfl ?_
              rw [hps]
              exact ⟨x8.up _ _ (by decide), (hF.tr f8).up (pc_t (by omega))⟩
            · skip
              refine Ev.aload_n (q := 132) dX6_readPerson_131 rfl rfl ?_
              refine gI (q := 135) dX6_readPerson_132 gfX6_25 k2 rfl rfl ?_
              first | rw [x8.1] | rw [x8.1.1]
              refine Ev.if_ne (tgt := 161) (q := 138) dX6_readPerson_135 (by decide) rfl (fun h62 => ?_) (fun h62 => ?_)
              · skip
                refine Ev.aload_n (q := 162) dX6_readPerson_161 rfl rfl ?_
                refine gR (q := 165) dX6_readPerson_162 gfX6_12 k2 r2_0 rfl rfl ?_
                refine Ev.dup (q := 166) dX6_readPerson_165 (fun z => by cases z) rfl ?_
                refine gI (q := 169) dX6_readPerson_166 gfX6_174 k3 rfl rfl ?_
                refine Ev.iconst (q := 170) dX6_readPerson_169 ki_1 rfl ?_
                refine Ev.iadd (q := 171) dX6_readPerson_170 rfl ?_
                refine pI (q := 174) dX6_readPerson_171 gfX6_174 k3 rfl rfl ?_
                refine rV dX6_readPerson_174 rfl ?_
                rw [hps]
                exact ⟨x8.up _ _ (by decide), (hF.tr f8).up (pc_t (by omega))⟩
              · skip
                exact absurd (by assumption) x8.2.1
          | some x =>
            cases x with
            | inl e =>
              rw [hx] at x8
              have x8 : BDc M8 e := x8
              have hps : (bE (bE (pfR tx N p (n + 1) t f) fun b => (.inr (b.1, upg b.2 3 (b.2 3 + 1)) : Er (Tok × Row))) chk) = .inl e := by rw [pfR_1, hx]; rfl
              refine iinc_2 (q := 158) dX6_readPerson_155 rfl rfl rfl ?_
              refine Ev.goto (q := 124) dX6_readPerson_158 (by decide) ?_
              refine Ev.iload_n (q := 125) dX6_readPerson_124 rfl rfl ?_
              refine Ev.sipush (q := 128) dX6_readPerson_125 kh_900 rfl ?_
              refine Ev.icmp_ge (tgt := 161) (q := 131) dX6_readPerson_128 (by decide) rfl (fun h61 => ?_) (fun h61 => ?_)
              · skip
                refine Ev.aload_n (q := 162) dX6_readPerson_161 rfl rfl ?_
                refine gR (q := 165) dX6_readPerson_162 gfX6_12 k2 r2_0 rfl rfl ?_
                refine Ev.dup (q := 166) dX6_readPerson_165 (fun z => by cases z) rfl ?_
                refine gI (q := 169) dX6_readPerson_166 gfX6_174 k3 rfl rfl ?_
                refine Ev.iconst (q := 170) dX6_readPerson_169 ki_1 rfl ?_
                refine Ev.iadd (q := 171) dX6_readPerson_170 rfl ?_
                refine pI (q := 174) dX6_readPerson_171 gfX6_174 k3 rfl rfl ?_
                refine rV dX6_readPerson_174 rfl ?_
                rw [hps]
                exact ⟨x8.up _ _ (by decide), (hF.tr f8).up (pc_t (by omega))⟩
              · skip
                refine Ev.aload_n (q := 132) dX6_readPerson_131 rfl rfl ?_
                refine gI (q := 135) dX6_readPerson_132 gfX6_25 k2 rfl rfl ?_
                first | rw [x8.1] | rw [x8.1.1]
                refine Ev.if_ne (tgt := 161) (q := 138) dX6_readPerson_135 (by decide) rfl (fun h62 => ?_) (fun h62 => ?_)
                · skip
                  refine Ev.aload_n (q := 162) dX6_readPerson_161 rfl rfl ?_
                  refine gR (q := 165) dX6_readPerson_162 gfX6_12 k2 r2_0 rfl rfl ?_
                  refine Ev.dup (q := 166) dX6_readPerson_165 (fun z => by cases z) rfl ?_
                  refine gI (q := 169) dX6_readPerson_166 gfX6_174 k3 rfl rfl ?_
                  refine Ev.iconst (q := 170) dX6_readPerson_169 ki_1 rfl ?_
                  refine Ev.iadd (q := 171) dX6_readPerson_170 rfl ?_
                  refine pI (q := 174) dX6_readPerson_171 gfX6_174 k3 rfl rfl ?_
                  refine rV dX6_readPerson_174 rfl ?_
                  rw [hps]
                  exact ⟨x8.up _ _ (by decide), (hF.tr f8).up (pc_t (by omega))⟩
                · skip
                  exact absurd (by assumption) x8.2.1
            | inr a =>
              rw [hx] at x8
              obtain ⟨x8, hR8⟩ : OKc M8 a.1 ∧ RC M8 a.2 L (p + 1) := x8
              have q := pf1_ok hT9.ok hRI hx
              have hle2 := tO_le q.1
              have hps : (bE (bE (pfR tx N p (n + 1) t f) fun b => (.inr (b.1, upg b.2 3 (b.2 3 + 1)) : Er (Tok × Row))) chk) = (bE (bE (pfR tx N p n a.1 a.2) fun b => .inr (b.1, upg b.2 3 (b.2 3 + 1))) chk) := by rw [pfR_1, hx]; rfl
              rw [hps]
              refine iinc_2 (q := 158) dX6_readPerson_155 rfl rfl rfl ?_
              refine Ev.goto (q := 124) dX6_readPerson_158 (by decide) ?_
              rw [w32_of (by omega) (by omega)]
              exact ih a.1 a.2 M8 (k + 1) x8 (pf1_T hT9 hx) (hC.p f8) hR8 q.2.2.1 (by rw [q.2.2.2.1]; exact hl9) (by rw [q.2.2.2.2.1]; exact ho9) (by omega) (by omega) (hF.tr f8)
