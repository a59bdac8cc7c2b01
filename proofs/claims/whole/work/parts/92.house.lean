/-! ===== the reference: house ===== -/
def sHo (a k : Nat) : Bool := (a == 211 && (k == 0 || (decide (5 ≤ k) && decide (k ≤ 15)))) || a == 212 || a == 215
theorem sHo_s {a k : Nat} (h : sHo a k = false) : sPs a k = false := by
  unfold sHo at h; unfold sPs
  simp at h ⊢
  refine ⟨fun h1 => ?_, h.2⟩
  have := h.1.1 h1
  simp_all
  omega
theorem Fr.ho {m m' : Mem} (h : Fr sPs m m') : Fr sHo m m' := h.mono (fun a k q => sHo_s q)
/-- how house ends: its answer, and the numbers then -/
def PH (r : Int) (g : Row) (m' : Mem) (x : Er (Tok × Row)) : Prop := m' 211 5 = 0 ∧ match x with
  | .inl e => ¬ e.1 = 0 ∧ r = w32 (-30 - e.1) ∧ m' 211 13 = e.1 ∧ m' 211 14 = e.2 ∧ m' 212 = g
  | .inr a => r = a.2 0 ∧ m' 211 13 = 0 ∧ m' 211 14 = -1 ∧ (∀ j, j < 1358 → m' 212 j = a.2 j) ∧ ∀ j, 1358 ≤ j → m' 212 j = g j
set_option maxRecDepth 4000 in
theorem l_houseC {Γ : Gm} {d : Nat} {m0 : Mem} (x1 : Int) (tf : Tok) (f : Row) : ∀ (n k : Nat) (M : Mem), k + n = 1358 → M 211 5 = 0 → M 211 13 = 0 → M 211 14 = -1 → M 215 = f → (∀ j, j < k → M 212 j = f j) → (∀ j, 1358 ≤ j → M 212 j = m0 212 j) → Fr sHo m0 M → Em Γ (d + 30) MX12_house (fun r m' => PH r (m0 212) m' (.inr (tf, f)) ∧ Fr sHo m0 m') 154 [rv 211, iv x1, iv k] [] M := by
  intro n
  induction n with
  | zero =>
    intro k M hk h5 h13 h14 h15 hc ho hF
    refine Ev.iload_n (q := 155) dX12_house_154 rfl rfl ?_
    refine Ev.sipush (q := 158) dX12_house_155 kh_1358 rfl ?_
    refine Ev.icmp_ge (tgt := 179) (q := 161) dX12_house_158 (by decide) rfl (fun h1 => ?_) (fun h1 => ?_)
    · skip
      refine Ev.aload_n (q := 180) dX12_house_179 rfl rfl ?_
      refine gR (q := 183) dX12_house_180 gfX12_13 k211 r211_1 rfl rfl ?_
      refine Ev.iconst (q := 184) dX12_house_183 ki_0 rfl ?_
      refine aI (q := 185) (k := 0) dX12_house_184 k212 (by rfl) (by decide) rfl ?_
      refine rI dX12_house_185 rfl ?_
      rw [hc 0 (by omega)]
      exact ⟨⟨h5, rfl, h13, h14, fun j hj => hc j (by omega), ho⟩, hF⟩
    · skip
      omega
  | succ n ih =>
    intro k M hk h5 h13 h14 h15 hc ho hF
    refine Ev.iload_n (q := 155) dX12_house_154 rfl rfl ?_
    refine Ev.sipush (q := 158) dX12_house_155 kh_1358 rfl ?_
    refine Ev.icmp_ge (tgt := 179) (q := 161) dX12_house_158 (by decide) rfl (fun h1 => ?_) (fun h1 => ?_)
    · skip
      omega
    · skip
      refine Ev.aload_n (q := 162) dX12_house_161 rfl rfl ?_
      refine gR (q := 165) dX12_house_162 gfX12_13 k211 r211_1 rfl rfl ?_
      refine Ev.iload_n (q := 166) dX12_house_165 rfl rfl ?_
      refine Ev.aload_n (q := 167) dX12_house_166 rfl rfl ?_
      refine gR (q := 170) dX12_house_167 gfX12_24 k211 r211_4 rfl rfl ?_
      refine Ev.iload_n (q := 171) dX12_house_170 rfl rfl ?_
      refine aI (q := 172) (k := k) dX12_house_171 k215 (by first | rfl | omega | (simp (disch := omega) only [w32_of]; omega)) (by omega) rfl ?_
      rw [h15]
      refine sI (q := 173) (k := k) dX12_house_172 k212 (by first | rfl | omega | (simp (disch := omega) only [w32_of]; omega)) (by omega) rfl ?_
      refine iinc_2 (q := 176) dX12_house_173 rfl rfl rfl ?_
      refine Ev.goto (q := 154) dX12_house_176 (by decide) ?_
      rw [w32_of (by omega) (by omega)]
      refine ih (k + 1) _ (by omega) (by rw [up_o _ _ (by decide)]; exact h5) (by rw [up_o _ _ (by decide)]; exact h13) (by rw [up_o _ _ (by decide)]; exact h14) (by rw [up_na _ _ (by decide)]; exact h15) (fun j hj => ?_) (fun j hj => by rw [up_k _ _ (by omega)]; exact ho j hj) (hF.up rfl)
      by_cases e : j = k
      · subst e; rw [up_eq]
      · rw [up_k _ _ e]; exact hc j (by omega)
set_option maxRecDepth 4000 in
theorem l_houseB {Γ : Gm} {d : Nat} {m0 M : Mem} (x1 : Int) (e : Int × Nat) (hb : BDm M e) (h5 : M 211 5 = 0) (h12 : M 212 = m0 212) (hF : Fr sHo m0 M) : Em Γ (d + 30) MX12_house (fun r m' => PH r (m0 212) m' (.inl e) ∧ Fr sHo m0 m') 110 [rv 211, iv x1, uv] [] M := by
  refine Ev.aload_n (q := 111) dX12_house_110 rfl rfl ?_
  refine Ev.aload_n (q := 112) dX12_house_111 rfl rfl ?_
  refine gI (q := 115) dX12_house_112 gfX12_102 k211 rfl rfl ?_
  rw [hb.1]
  refine pI (q := 118) dX12_house_115 gfX12_177 k211 rfl rfl ?_
  refine Ev.aload_n (q := 119) dX12_house_118 rfl rfl ?_
  refine Ev.aload_n (q := 120) dX12_house_119 rfl rfl ?_
  refine gI (q := 123) dX12_house_120 gfX12_102 k211 rfl rfl ?_
  rw [up_k _ _ (by decide), hb.1]
  refine Ev.if_ne (tgt := 130) (q := 126) dX12_house_123 (by decide) rfl (fun h1 => ?_) (fun h1 => ?_)
  · skip
    refine Ev.aload_n (q := 131) dX12_house_130 rfl rfl ?_
    refine gI (q := 134) dX12_house_131 gfX12_105 k211 rfl rfl ?_
    rw [up_k _ _ (by decide), hb.2.2]
    refine pI (q := 137) dX12_house_134 gfX12_27 k211 rfl rfl ?_
    refine Ev.aload_n (q := 138) dX12_house_137 rfl rfl ?_
    refine gI (q := 141) dX12_house_138 gfX12_102 k211 rfl rfl ?_
    rw [up_k _ _ (by decide), up_k _ _ (by decide), hb.1]
    refine Ev.if_eq (tgt := 152) (q := 144) dX12_house_141 (by decide) rfl (fun h2 => ?_) (fun h2 => ?_)
    · skip
      exact absurd (by assumption) hb.2.1
    · skip
      refine Ev.bipush (q := 146) dX12_house_144 kb_m30 rfl ?_
      refine Ev.aload_n (q := 147) dX12_house_146 rfl rfl ?_
      refine gI (q := 150) dX12_house_147 gfX12_102 k211 rfl rfl ?_
      rw [up_k _ _ (by decide), up_k _ _ (by decide), hb.1]
      refine Ev.isub (q := 151) dX12_house_150 rfl ?_
      refine rI dX12_house_151 rfl ?_
      refine ⟨⟨?_, hb.2.1, rfl, ?_, ?_, ?_⟩, (hF.up rfl).up rfl⟩
      · rw [up_k _ _ (by decide), up_k _ _ (by decide)]; exact h5
      · rw [up_k _ _ (by decide), up_eq]
      · rw [up_eq]
      · rw [up_na _ _ (by decide), up_na _ _ (by decide)]; exact h12
  · skip
    exact absurd (by assumption) hb.2.1
set_option maxRecDepth 4000 in
theorem l_houseO {Γ : Gm} {d : Nat} {m0 M : Mem} (x1 : Int) (tf : Tok) (f : Row) (h : OKm M tf f) (h5 : M 211 5 = 0) (h12 : M 212 = m0 212) (hF : Fr sHo m0 M) : Em Γ (d + 30) MX12_house (fun r m' => PH r (m0 212) m' (.inr (tf, f)) ∧ Fr sHo m0 m') 110 [rv 211, iv x1, uv] [] M := by
  refine Ev.aload_n (q := 111) dX12_house_110 rfl rfl ?_
  refine Ev.aload_n (q := 112) dX12_house_111 rfl rfl ?_
  refine gI (q := 115) dX12_house_112 gfX12_102 k211 rfl rfl ?_
  rw [h.1]
  refine pI (q := 118) dX12_house_115 gfX12_177 k211 rfl rfl ?_
  refine Ev.aload_n (q := 119) dX12_house_118 rfl rfl ?_
  refine Ev.aload_n (q := 120) dX12_house_119 rfl rfl ?_
  refine gI (q := 123) dX12_house_120 gfX12_102 k211 rfl rfl ?_
  rw [up_k _ _ (by decide), h.1]
  refine Ev.if_ne (tgt := 130) (q := 126) dX12_house_123 (by decide) rfl (fun h1 => ?_) (fun h1 => ?_)
  · skip
    omega
  · skip
    refine Ev.iconst (q := 127) dX12_house_126 ki_m1 rfl ?_
    refine Ev.goto (q := 134) dX12_house_127 (by decide) ?_
    refine pI (q := 137) dX12_house_134 gfX12_27 k211 rfl rfl ?_
    refine Ev.aload_n (q := 138) dX12_house_137 rfl rfl ?_
    refine gI (q := 141) dX12_house_138 gfX12_102 k211 rfl rfl ?_
    rw [up_k _ _ (by decide), up_k _ _ (by decide), h.1]
    refine Ev.if_eq (tgt := 152) (q := 144) dX12_house_141 (by decide) rfl (fun h2 => ?_) (fun h2 => ?_)
    · skip
      refine Ev.iconst (q := 153) dX12_house_152 ki_0 rfl ?_
      refine istore_n_2 (q := 154) dX12_house_153 rfl rfl rfl ?_
      exact l_houseC (m0 := m0) x1 tf f 1358 0 _ (by omega) (by rw [up_k _ _ (by decide), up_k _ _ (by decide)]; exact h5) (by rw [up_k _ _ (by decide), up_eq]) (by rw [up_eq]) (by rw [up_na _ _ (by decide), up_na _ _ (by decide)]; exact h.2.2) (fun j hj => by omega) (fun j hj => by rw [up_na _ _ (by decide), up_na _ _ (by decide), h12]) ((hF.up rfl).up rfl)
    · skip
      omega
set_option maxRecDepth 4000 in
theorem l_house {Γ : Gm} {d : Nat} {m0 : Mem} (tx : Nat → Int) (N : Nat) (x1 : Int) (hN : N ≤ 900) : ∀ (n : Nat) (t : Tok) (f : Row) (M : Mem), OKm M t f → TX M tx N → LnI tx N t f → N - t.2.1 + 1 ≤ n → M 211 5 = 0 → M 212 = m0 212 → Fr sHo m0 M → Em Γ (d + 30) MX12_house (fun r m' => PH r (m0 212) m' (hoL tx N n t f) ∧ Fr sHo m0 m') 83 [rv 211, iv x1, uv] [] M := by
  intro n
  induction n with
  | zero => intro t f M h hX hI hn; omega
  | succ n ih =>
    intro t f M h hX hI hn h5 h12 hF
    refine Ev.aload_n (q := 84) dX12_house_83 rfl rfl ?_
    refine gI (q := 87) dX12_house_84 gfX12_102 k211 rfl rfl ?_
    rw [h.1]
    refine Ev.if_ne (tgt := 110) (q := 90) dX12_house_87 (by decide) rfl (fun h1 => ?_) (fun h1 => ?_)
    · skip
      omega
    · skip
      refine Ev.aload_n (q := 91) dX12_house_90 rfl rfl ?_
      refine gI (q := 94) dX12_house_91 gfX12_84 k211 rfl rfl ?_
      refine Ev.bipush (q := 96) dX12_house_94 kb_24 rfl ?_
      rw [h.2.1.1]
      refine Ev.icmp_eq (tgt := 110) (q := 99) dX12_house_96 (by decide) rfl (fun h2 => ?_) (fun h2 => ?_)
      · skip
        rw [hoL_end (by assumption)]
        exact l_houseO x1 t f h h5 h12 hF
      · skip
        refine Ev.aload_n (q := 100) dX12_house_99 rfl rfl ?_
        refine cV0v (q := 103) (d' := d + 29) dX12_house_100 mlX12_174 moX12_readLine mvX12_readLine k211 rfl rfl rfl (Nat.le_refl _) rfl rfl rfl (p_X12_readLine tx N t f hN hX hI.1 h hI.2.1 hI.2.2.1) (fun r3 m3 e3 => ?_)
        obtain ⟨M9, rfl⟩ : ∃ M9, M9 = m3 := ⟨_, rfl⟩
        obtain ⟨x9, f9⟩ := e3
        have g5 : M9 211 5 = 0 := by rw [f9 211 5 rfl]; exact h5
        have g12 : M9 212 = m0 212 := by rw [f9.row 212 (fun _ => rfl)]; exact h12
        have h24 : ¬ t.1 = 24 := by assumption
        cases hx : lnS tx N t f with
        | inl e =>
          rw [hx] at x9
          have x9 : BDm M9 e := x9
          refine Ev.aload_n (q := 104) dX12_house_103 rfl rfl ?_
          refine cV0v (q := 107) (d' := d + 29) dX12_house_104 mlX12_171 moX12_ends mvX12_ends k211 rfl rfl rfl (Nat.le_refl _) rfl rfl rfl (p_X12_ends_bd e x9) (fun r41 m41 e41 => ?_)
          obtain ⟨M8, rfl⟩ : ∃ M8, M8 = m41 := ⟨_, rfl⟩
          obtain ⟨x8, f8⟩ := e41
          refine Ev.goto (q := 83) dX12_house_107 (by decide) ?_
          refine Ev.aload_n (q := 84) dX12_house_83 rfl rfl ?_
          refine gI (q := 87) dX12_house_84 gfX12_102 k211 rfl rfl ?_
          rw [x8.1]
          refine Ev.if_ne (tgt := 110) (q := 90) dX12_house_87 (by decide) rfl (fun h61 => ?_) (fun h61 => ?_)
          · skip
            rw [hoL_ln h24, bE_l hx]
            exact l_houseB x1 e x8 (by rw [f8 211 5 rfl]; exact g5) (by rw [f8.row 212 (fun _ => rfl)]; exact g12) (hF.tr (f9.ho.tr (sPs_q f8).ho))
          · skip
            exact absurd (by assumption) x8.2.1
        | inr a =>
          rw [hx] at x9
          have x9 : OKm M9 a.1 a.2 := x9
          obtain ⟨q1, q2, q3, q4, q5⟩ := ln_ok hI.1 hI.2.1 hI.2.2.1 hx
          have hle := tO_le hI.1
          refine Ev.aload_n (q := 104) dX12_house_103 rfl rfl ?_
          refine cV0v (q := 107) (d' := d + 29) dX12_house_104 mlX12_171 moX12_ends mvX12_ends k211 rfl rfl rfl (Nat.le_refl _) rfl rfl rfl (p_X12_ends tx N a.1 a.2 hN (hX.keep f9) q1 x9 (by have := hI.2.2.2; omega)) (fun r41 m41 e41 => ?_)
          obtain ⟨M8, rfl⟩ : ∃ M8, M8 = m41 := ⟨_, rfl⟩
          obtain ⟨x8, f8⟩ := e41
          cases hy : enS tx N a.1 a.2 with
          | inl e =>
            rw [hy] at x8
            have x8 : BDm M8 e := x8
            refine Ev.goto (q := 83) dX12_house_107 (by decide) ?_
            refine Ev.aload_n (q := 84) dX12_house_83 rfl rfl ?_
            refine gI (q := 87) dX12_house_84 gfX12_102 k211 rfl rfl ?_
            rw [x8.1]
            refine Ev.if_ne (tgt := 110) (q := 90) dX12_house_87 (by decide) rfl (fun h61 => ?_) (fun h61 => ?_)
            · skip
              rw [hoL_ln h24, bE_r hx, bE_l hy]
              exact l_houseB x1 e x8 (by rw [f8 211 5 rfl]; exact g5) (by rw [f8.row 212 (fun _ => rfl)]; exact g12) (hF.tr (f9.ho.tr (sPs_q f8).ho))
            · skip
              exact absurd (by assumption) x8.2.1
          | inr b =>
            rw [hy] at x8
            have x8 : OKm M8 b.1 b.2 := x8
            obtain ⟨hI8, hlt⟩ := hI.nx hx hy
            have hle8 := tO_le hI8.1
            refine Ev.goto (q := 83) dX12_house_107 (by decide) ?_
            rw [hoL_ln h24, bE_r hx, bE_r hy]
            exact ih b.1 b.2 M8 x8 ((hX.keep f9).q f8) hI8 (by omega) (by rw [f8 211 5 rfl]; exact g5) (by rw [f8.row 212 (fun _ => rfl)]; exact g12) (hF.tr (f9.ho.tr (sPs_q f8).ho))
set_option maxRecDepth 4000 in
theorem p_X12_house {Γ : Gm} {d : Nat} {m : Mem} (n : Int) (h5 : 0 ≤ m 211 5 ∧ m 211 5 ≤ 900) : Ci Γ (d + 30) MX12_house [rv 211, iv n] m (fun r m' => ((0 ≤ n ∧ n ≤ m 211 5) → ∃ f0 : Row, (∀ j, j < 1358 → f0 j = f0R j) ∧ PH r (m 212) m' (hoG (m 214) n.toNat f0) ∧ Fr sHo m m') ∧ (¬ (0 ≤ n ∧ n ≤ m 211 5) → r = -3 ∧ Fr sQ m m')) := by
  refine Ci.of moX12_house rfl rfl (fun hA hM => ?_)
  show Em Γ (d + 30) MX12_house _ 0 [rv 211, iv n, uv] [] m
  obtain ⟨tx, htx⟩ : ∃ tx, tx = m 214 := ⟨_, rfl⟩
  refine Ev.aload_n (q := 1) dX12_house_0 rfl rfl ?_
  refine Ev.iconst (q := 2) dX12_house_1 ki_0 rfl ?_
  refine pI (q := 5) dX12_house_2 gfX12_1 k211 rfl rfl ?_
  refine Ev.iload_n (q := 6) dX12_house_5 rfl rfl ?_
  refine Ev.i2l (q := 7) dX12_house_6 rfl ?_
  refine Ev.lconst (q := 8) dX12_house_7 kj_0 rfl ?_
  refine Ev.aload_n (q := 9) dX12_house_8 rfl rfl ?_
  refine gI (q := 12) dX12_house_9 gfX12_56 k211 rfl rfl ?_
  rw [up_k _ _ (by decide)]
  refine Ev.i2l (q := 13) dX12_house_12 rfl ?_
  refine cS3i (q := 16) (d' := d + 29) dX12_house_13 mlX12_118 moX12_within msX12_within rfl rfl (Nat.le_refl _) rfl rfl rfl (p_X12_within _ _ _) (fun r1 m1 e1 => ?_)
  obtain ⟨rfl, e1⟩ := e1
  obtain rfl := e1.symm
  refine Ev.if_ne (tgt := 22) (q := 19) dX12_house_16 (by decide) rfl (fun h2 => ?_) (fun h2 => ?_)
  · skip
    have hn : 0 ≤ n ∧ n ≤ m 211 5 := by split at h2 <;> omega
    refine Ev.aload_n (q := 23) dX12_house_22 rfl rfl ?_
    refine Ev.iload_n (q := 24) dX12_house_23 rfl rfl ?_
    refine pI (q := 27) dX12_house_24 gfX12_59 k211 rfl rfl ?_
    refine Ev.aload_n (q := 28) dX12_house_27 rfl rfl ?_
    refine Ev.iconst (q := 29) dX12_house_28 ki_0 rfl ?_
    refine pI (q := 32) dX12_house_29 gfX12_56 k211 rfl rfl ?_
    refine Ev.aload_n (q := 33) dX12_house_32 rfl rfl ?_
    refine Ev.iconst (q := 34) dX12_house_33 ki_0 rfl ?_
    refine pI (q := 37) dX12_house_34 gfX12_77 k211 rfl rfl ?_
    refine Ev.aload_n (q := 38) dX12_house_37 rfl rfl ?_
    refine Ev.iconst (q := 39) dX12_house_38 ki_0 rfl ?_
    refine pI (q := 42) dX12_house_39 gfX12_102 k211 rfl rfl ?_
    refine Ev.aload_n (q := 43) dX12_house_42 rfl rfl ?_
    refine gR (q := 46) dX12_house_43 gfX12_24 k211 r211_4 rfl rfl ?_
    refine cS1v (q := 49) (d' := d + 29) dX12_house_46 mlX12_52 moX12_plain msX12_plain rfl rfl (Nat.le_refl _) rfl rfl rfl (p_X12_plain 215 1358 k215 (by decide)) (fun r3 m3 e3 => ?_)
    obtain ⟨M9, rfl⟩ : ∃ M9, M9 = m3 := ⟨_, rfl⟩
    obtain ⟨p1, p2, p3⟩ := e3
    obtain ⟨f0, hf0e⟩ : ∃ f0, f0 = M9 215 := ⟨_, rfl⟩
    have hf0 : ∀ j, j < 1358 → f0 j = f0R j := fun j hj => by rw [hf0e]; exact p1 j hj
    have F9 : Fr sHo m M9 := (((((((Fr.rf _ _).up rfl).up rfl).up rfl).up rfl).up rfl)).tr (p3.mono (fun a k q => sA_f (fun z => by rw [z] at q; cases q)))
    have g5 : M9 211 5 = 0 := by rw [p3 211 5 rfl, up_k _ _ (by decide), up_k _ _ (by decide), up_eq]
    have g7 : M9 211 7 = ((0 : Nat) : Int) := by rw [p3 211 7 rfl, up_k _ _ (by decide), up_eq]; rfl
    have g8 : M9 211 8 = (n.toNat : Int) := by rw [p3 211 8 rfl, up_k _ _ (by decide), up_k _ _ (by decide), up_k _ _ (by decide), up_eq]; omega
    have g11 : M9 211 11 = 0 := by rw [p3 211 11 rfl, up_eq]
    have g12 : M9 212 = m 212 := by rw [p3.rowA (by decide), up_na _ _ (by decide), up_na _ _ (by decide), up_na _ _ (by decide), up_na _ _ (by decide), up_na _ _ (by decide)]
    have g14 : M9 214 = tx := by rw [p3.rowA (by decide), up_na _ _ (by decide), up_na _ _ (by decide), up_na _ _ (by decide), up_na _ _ (by decide), up_na _ _ (by decide), htx]
    have fin : ∀ {pc : Nat} {L S : List Vl} {M : Mem}, Em Γ (d + 30) MX12_house (fun r m' => PH r (m 212) m' (hoG tx n.toNat f0) ∧ Fr sHo m m') pc L S M → Em Γ (d + 30) MX12_house (fun r m' => ((0 ≤ n ∧ n ≤ m 211 5) → ∃ f0 : Row, (∀ j, j < 1358 → f0 j = f0R j) ∧ PH r (m 212) m' (hoG (m 214) n.toNat f0) ∧ Fr sHo m m') ∧ (¬ (0 ≤ n ∧ n ≤ m 211 5) → r = -3 ∧ Fr sQ m m')) pc L S M := fun k => k.imp (fun r9 m9 h9 => ⟨fun _ => ⟨f0, hf0, by rw [← htx]; exact h9.1, h9.2⟩, fun z => absurd hn z⟩)
    refine Ev.aload_n (q := 50) dX12_house_49 rfl rfl ?_
    refine cV0v (q := 53) (d' := d + 29) dX12_house_50 mlX12_111 moX12_next mvX12_next k211 rfl rfl rfl (Nat.le_refl _) rfl rfl rfl (p_X12_next n.toNat 0 (by omega) (by omega) g8 g7) (fun r4 m4 e4 => ?_)
    obtain ⟨M8, rfl⟩ : ∃ M8, M8 = m4 := ⟨_, rfl⟩
    obtain ⟨y1, y2⟩ := e4
    rw [g14] at y1
    have f8 := y2.pq
    have x8 : OKm M8 (tokV tx n.toNat 0) f0 := ⟨by rw [y2 211 11 rfl]; exact g11, y1, by rw [y2.row 215 (fun _ => rfl), hf0e]⟩
    have hX8 : TX M8 tx n.toNat := ⟨by rw [y2 211 8 rfl]; exact g8, by rw [y2.row 214 (fun _ => rfl)]; exact g14⟩
    have hO8 := tOK_0 tx n.toNat
    replace g5 : M8 211 5 = 0 := by rw [y2 211 5 rfl]; exact g5
    replace g12 : M8 212 = m 212 := by rw [y2.row 212 (fun _ => rfl)]; exact g12
    replace F9 : Fr sHo m M8 := F9.tr (sPs_q f8).ho
    refine Ev.aload_n (q := 54) dX12_house_53 rfl rfl ?_
    refine Ev.iconst (q := 55) dX12_house_54 ki_0 rfl ?_
    refine cV1i (q := 58) (d' := d + 29) dX12_house_55 mlX12_137 moX12_eats mvX12_eats k211 rfl rfl rfl (Nat.le_refl _) rfl rfl rfl (p_X12_eats tx n.toNat (tokV tx n.toNat 0) f0 0 (by omega) hX8 hO8 x8) (fun r5 m5 e5 => ?_)
    obtain ⟨M7, rfl⟩ : ∃ M7, M7 = m5 := ⟨_, rfl⟩
    obtain ⟨ey, en⟩ := e5
    refine Ev.if_ne (tgt := 66) (q := 61) dX12_house_58 (by decide) rfl (fun h6 => ?_) (fun h6 => ?_)
    · skip
      have hk : (tokV tx n.toNat 0).1 = 0 := Classical.byContradiction fun z => by have := (en z).1; omega
      obtain ⟨-, x7, f7⟩ := ey hk
      have hX7 := hX8.q f7
      have hO7 := (tOK_nx hO8).1
      have hea : eaS tx n.toNat 0 (tokV tx n.toNat 0) = .inr (nxS tx n.toNat (tokV tx n.toNat 0)) := by unfold eaS; rw [if_pos hk]
      refine Ev.aload_n (q := 67) dX12_house_66 rfl rfl ?_
      refine gR (q := 70) dX12_house_67 gfX12_24 k211 r211_4 rfl rfl ?_
      refine Ev.iconst (q := 71) dX12_house_70 ki_1 rfl ?_
      refine Ev.aload_n (q := 72) dX12_house_71 rfl rfl ?_
      refine Ev.iconst (q := 73) dX12_house_72 ki_2 rfl ?_
      refine Ev.bipush (q := 75) dX12_house_73 kb_12 rfl ?_
      refine cV2i (q := 78) (d' := d + 29) dX12_house_75 mlX12_146 moX12_takes mvX12_takes k211 rfl rfl rfl (Nat.le_refl _) rfl rfl rfl (p_X12_takes tx n.toNat (nxS tx n.toNat (tokV tx n.toNat 0)) f0 2 12 (by omega) hX7 hO7 x7) (fun r51 m51 e51 => ?_)
      obtain ⟨M6, rfl⟩ : ∃ M6, M6 = m51 := ⟨_, rfl⟩
      obtain ⟨x6, f6⟩ := e51
      have hX6 := hX7.q f6
      cases hx : nuS tx n.toNat 2 12 (nxS tx n.toNat (tokV tx n.toNat 0)) with
      | inl e =>
        rw [hx] at x6
        have x6 : BDm M6 e := x6
        refine sI (q := 79) (k := 1) dX12_house_78 k215 (by rfl) (by decide) rfl ?_
        refine Ev.aload_n (q := 80) dX12_house_79 rfl rfl ?_
        refine cV0v (q := 83) (d' := d + 29) dX12_house_80 mlX12_171 moX12_ends mvX12_ends k211 rfl rfl rfl (Nat.le_refl _) rfl rfl rfl (p_X12_ends_bd _ ((x6).up _ _)) (fun r91 m91 e91 => ?_)
        obtain ⟨M5, rfl⟩ : ∃ M5, M5 = m91 := ⟨_, rfl⟩
        obtain ⟨x5, f5⟩ := e91
        refine Ev.aload_n (q := 84) dX12_house_83 rfl rfl ?_
        refine gI (q := 87) dX12_house_84 gfX12_102 k211 rfl rfl ?_
        rw [x5.1]
        refine Ev.if_ne (tgt := 110) (q := 90) dX12_house_87 (by decide) rfl (fun h121 => ?_) (fun h121 => ?_)
        · skip
          refine fin ?_
          unfold hoG
          rw [bE_r hea, bE_l hx]
          exact l_houseB n _ x5 (by rw [f5 211 5 rfl]; rw [up_o _ _ (by decide), f6 211 5 rfl, f7 211 5 rfl]; exact g5) (by rw [f5.row 212 (fun _ => rfl)]; rw [up_na _ _ (by decide), f6.row 212 (fun _ => rfl), f7.row 212 (fun _ => rfl)]; exact g12) (((F9.tr ((sPs_q (f7.tr f6)).ho)).up rfl).tr (sPs_q f5).ho)
        · skip
          exact absurd (by assumption) x5.2.1
      | inr a =>
        rw [hx] at x6
        obtain ⟨xr, x6⟩ : _ = a.1 ∧ OKm M6 a.2 f0 := x6
        obtain ⟨n1, n2, n3, n4, n5⟩ := nu_inv hO7 hx
        have hle2 := tO_le n4
        rw [xr]
        refine sI (q := 79) (k := 1) dX12_house_78 k215 (by rfl) (by decide) rfl ?_
        refine Ev.aload_n (q := 80) dX12_house_79 rfl rfl ?_
        refine cV0v (q := 83) (d' := d + 29) dX12_house_80 mlX12_171 moX12_ends mvX12_ends k211 rfl rfl rfl (Nat.le_refl _) rfl rfl rfl (p_X12_ends tx (n.toNat) a.2 (upg f0 1 a.1) (by omega) (hX6.q ((Fr.rf sPq _).up rfl)) n4 (x6.up 1 a.1) (by rw [upg_ne _ _ (by decide), hf0 0 (by decide)]; decide)) (fun r71 m71 e71 => ?_)
        obtain ⟨M5, rfl⟩ : ∃ M5, M5 = m71 := ⟨_, rfl⟩
        obtain ⟨x5, f5⟩ := e71
        have k5 : M5 211 5 = 0 := by rw [f5 211 5 rfl, up_o _ _ (by decide), f6 211 5 rfl, f7 211 5 rfl]; exact g5
        have k12 : M5 212 = m 212 := by rw [f5.row 212 (fun _ => rfl), up_na _ _ (by decide), f6.row 212 (fun _ => rfl), f7.row 212 (fun _ => rfl)]; exact g12
        have K5 : Fr sHo m M5 := ((F9.tr ((sPs_q (f7.tr f6)).ho)).up rfl).tr (sPs_q f5).ho
        cases hz : enS tx n.toNat a.2 (upg f0 1 a.1) with
        | inl e =>
          rw [hz] at x5
          have x5 : BDm M5 e := x5
          refine Ev.aload_n (q := 84) dX12_house_83 rfl rfl ?_
          refine gI (q := 87) dX12_house_84 gfX12_102 k211 rfl rfl ?_
          rw [x5.1]
          refine Ev.if_ne (tgt := 110) (q := 90) dX12_house_87 (by decide) rfl (fun h121 => ?_) (fun h121 => ?_)
          · skip
            refine fin ?_
            unfold hoG
            rw [bE_r hea, bE_r hx, bE_l hz]
            exact l_houseB n e x5 k5 k12 K5
          · skip
            exact absurd (by assumption) x5.2.1
        | inr b =>
          rw [hz] at x5
          have x5 : OKm M5 b.1 b.2 := x5
          obtain ⟨e1, e2, e3⟩ := en_ok n4 hz
          refine fin ?_
          unfold hoG
          rw [bE_r hea, bE_r hx, bE_r hz]
          refine l_house (m0 := m) tx n.toNat n (by omega) (n.toNat + 1) b.1 b.2 M5 x5 ((hX6.q ((Fr.rf sPq _).up rfl)).q f5) ⟨e1, ?_, ?_, ?_⟩ (by omega) k5 k12 K5
          · rw [e3]
            refine ⟨?_, ?_, ?_⟩
            · rw [upg_ne _ _ (show 1 ≠ 0 by decide), upg_eq]; exact n2
            · rw [upg_ne _ _ (show 2 ≠ 0 by decide), upg_ne _ _ (show 2 ≠ 1 by decide), hf0 2 (by decide)]; decide
            · rw [upg_ne _ _ (show 3 ≠ 0 by decide), upg_ne _ _ (show 3 ≠ 1 by decide), hf0 3 (by decide)]; decide
          · rw [e3, upg_ne _ _ (by decide), upg_ne _ _ (by decide), hf0 457 (by decide)]; show 0 ≤ (0 : Int) ∧ (0 : Int) ≤ _; omega
          · rw [e3, upg_eq, upg_ne _ _ (by decide), hf0 0 (by decide)]; show 0 ≤ (0 : Int) + 1 ∧ (0 : Int) + 1 ≤ _; omega
    · skip
      have hk : ¬ (tokV tx n.toNat 0).1 = 0 := fun z => by have := (ey z).1; omega
      obtain ⟨-, rfl⟩ := en hk
      have hea : eaS tx n.toNat 0 (tokV tx n.toNat 0) = flS (tokV tx n.toNat 0) 2 := by unfold eaS; rw [if_neg hk]
      refine Ev.aload_n (q := 62) dX12_house_61 rfl rfl ?_
      refine Ev.iconst (q := 63) dX12_house_62 ki_2 rfl ?_
      refine cV1v (q := 66) (d' := d + 29) dX12_house_63 mlX12_114 moX12_fails mvX12_fails k211 rfl rfl rfl (Nat.le_refl _) rfl rfl rfl (p_X12_fails (tokV tx n.toNat 0) f0 2 (by decide) x8) (fun r7 m7 e7 => ?_)
      obtain ⟨M6, rfl⟩ : ∃ M6, M6 = m7 := ⟨_, rfl⟩
      obtain ⟨b1, b2⟩ := e7
      refine Ev.aload_n (q := 67) dX12_house_66 rfl rfl ?_
      refine gR (q := 70) dX12_house_67 gfX12_24 k211 r211_4 rfl rfl ?_
      refine Ev.iconst (q := 71) dX12_house_70 ki_1 rfl ?_
      refine Ev.aload_n (q := 72) dX12_house_71 rfl rfl ?_
      refine Ev.iconst (q := 73) dX12_house_72 ki_2 rfl ?_
      refine Ev.bipush (q := 75) dX12_house_73 kb_12 rfl ?_
      refine cV2i (q := 78) (d' := d + 29) dX12_house_75 mlX12_146 moX12_takes mvX12_takes k211 rfl rfl rfl (Nat.le_refl _) rfl rfl rfl (p_X12_takes_bd _ _ _ b1) (fun r91 m91 e91 => ?_)
      obtain rfl := (show _ = _ from e91).symm
      refine sI (q := 79) (k := 1) dX12_house_78 k215 (by rfl) (by decide) rfl ?_
      refine Ev.aload_n (q := 80) dX12_house_79 rfl rfl ?_
      refine cV0v (q := 83) (d' := d + 29) dX12_house_80 mlX12_171 moX12_ends mvX12_ends k211 rfl rfl rfl (Nat.le_refl _) rfl rfl rfl (p_X12_ends_bd _ ((b1).up _ _)) (fun r92 m92 e92 => ?_)
      obtain ⟨M5, rfl⟩ : ∃ M5, M5 = m92 := ⟨_, rfl⟩
      obtain ⟨x5, f5⟩ := e92
      refine Ev.aload_n (q := 84) dX12_house_83 rfl rfl ?_
      refine gI (q := 87) dX12_house_84 gfX12_102 k211 rfl rfl ?_
      rw [x5.1]
      refine Ev.if_ne (tgt := 110) (q := 90) dX12_house_87 (by decide) rfl (fun h121 => ?_) (fun h121 => ?_)
      · skip
        refine fin ?_
        unfold hoG
        rw [bE_l (hea.trans rfl)]
        exact l_houseB n _ x5 (by rw [f5 211 5 rfl]; rw [up_o _ _ (by decide), b2 211 5 rfl]; exact g5) (by rw [f5.row 212 (fun _ => rfl)]; rw [up_na _ _ (by decide), b2.row 212 (fun _ => rfl)]; exact g12) (((F9.tr (sPs_q b2).ho).up rfl).tr (sPs_q f5).ho)
      · skip
        exact absurd (by assumption) x5.2.1
  · skip
    refine Ev.bipush (q := 21) dX12_house_19 kb_m3 rfl ?_
    refine rI dX12_house_21 rfl ?_
    exact ⟨fun z => absurd z (by split at h2 <;> omega), fun _ => ⟨rfl, (Fr.rf _ _).up rfl⟩⟩
