/-! ===== the reference: lifts, people, calls, laws as lines ===== -/
set_option maxRecDepth 4000 in
theorem p_X12_readPersonFlag {Γ : Gm} {d : Nat} {m : Mem} (tx : Nat → Int) (N : Nat) (t : Tok) (f : Row) (p : Nat) (hN : N ≤ 900) (hX : TX m tx N) (hO : tOK tx N t) (h : OKm m t f) (hR : RI f) (hp : p < 8) : Ci Γ (d + 7) MX12_readPersonFlag [rv 211, iv p] m (fun r m' => PF r m m' (pf1 tx N p t f) ∧ Fr sPq m m') := by
  refine Ci.of moX12_readPersonFlag rfl rfl (fun hA hM => ?_)
  show Em Γ (d + 7) MX12_readPersonFlag _ 0 [rv 211, iv p, uv] [] m
  obtain ⟨hR1, hR2, hR3⟩ := hR
  refine Ev.aload_n (q := 1) dX12_readPersonFlag_0 rfl rfl ?_
  refine Ev.iconst (q := 2) dX12_readPersonFlag_1 ki_2 rfl ?_
  refine cV1i (q := 5) (d' := d + 6) dX12_readPersonFlag_2 mlX12_137 moX12_eats mvX12_eats k211 rfl rfl rfl (Nat.le_refl _) rfl rfl rfl (p_X12_eats tx N t f 2 hN hX hO h) (fun r1 m1 e1 => ?_)
  obtain ⟨M9, rfl⟩ : ∃ M9, M9 = m1 := ⟨_, rfl⟩
  obtain ⟨ey, en⟩ := e1
  refine Ev.if_eq (tgt := 43) (q := 8) dX12_readPersonFlag_5 (by decide) rfl (fun h2 => ?_) (fun h2 => ?_)
  · skip
    have hn2 : ¬ t.1 = 2 := fun z => by have := (ey z).1; omega
    obtain ⟨-, rfl⟩ := en hn2
    refine Ev.aload_n (q := 44) dX12_readPersonFlag_43 rfl rfl ?_
    refine Ev.bipush (q := 46) dX12_readPersonFlag_44 kb_9 rfl ?_
    refine cV1i (q := 49) (d' := d + 6) dX12_readPersonFlag_46 mlX12_137 moX12_eats mvX12_eats k211 rfl rfl rfl (Nat.le_refl _) rfl rfl rfl (p_X12_eats tx N t f 9 hN hX hO h) (fun r3 m3 e3 => ?_)
    obtain ⟨M9, rfl⟩ : ∃ M9, M9 = m3 := ⟨_, rfl⟩
    obtain ⟨ey, en⟩ := e3
    refine Ev.if_eq (tgt := 104) (q := 52) dX12_readPersonFlag_49 (by decide) rfl (fun h4 => ?_) (fun h4 => ?_)
    · skip
      have hn9 : ¬ t.1 = 9 := fun z => by have := (ey z).1; omega
      obtain ⟨-, rfl⟩ := en hn9
      refine Ev.aload_n (q := 105) dX12_readPersonFlag_104 rfl rfl ?_
      refine Ev.bipush (q := 107) dX12_readPersonFlag_105 kb_10 rfl ?_
      refine cV1i (q := 110) (d' := d + 6) dX12_readPersonFlag_107 mlX12_137 moX12_eats mvX12_eats k211 rfl rfl rfl (Nat.le_refl _) rfl rfl rfl (p_X12_eats tx N t f 10 hN hX hO h) (fun r5 m5 e5 => ?_)
      obtain ⟨M9, rfl⟩ : ∃ M9, M9 = m5 := ⟨_, rfl⟩
      obtain ⟨ey, en⟩ := e5
      refine Ev.if_eq (tgt := 132) (q := 113) dX12_readPersonFlag_110 (by decide) rfl (fun h6 => ?_) (fun h6 => ?_)
      · skip
        have hn10 : ¬ t.1 = 10 := fun z => by have := (ey z).1; omega
        obtain ⟨-, rfl⟩ := en hn10
        refine Ev.aload_n (q := 133) dX12_readPersonFlag_132 rfl rfl ?_
        refine Ev.bipush (q := 135) dX12_readPersonFlag_133 kb_11 rfl ?_
        refine cV1i (q := 138) (d' := d + 6) dX12_readPersonFlag_135 mlX12_137 moX12_eats mvX12_eats k211 rfl rfl rfl (Nat.le_refl _) rfl rfl rfl (p_X12_eats tx N t f 11 hN hX hO h) (fun r7 m7 e7 => ?_)
        obtain ⟨M9, rfl⟩ : ∃ M9, M9 = m7 := ⟨_, rfl⟩
        obtain ⟨ey, en⟩ := e7
        refine Ev.if_eq (tgt := 160) (q := 141) dX12_readPersonFlag_138 (by decide) rfl (fun h8 => ?_) (fun h8 => ?_)
        · skip
          have hn11 : ¬ t.1 = 11 := fun z => by have := (ey z).1; omega
          obtain ⟨-, rfl⟩ := en hn11
          refine Ev.aload_n (q := 161) dX12_readPersonFlag_160 rfl rfl ?_
          refine Ev.bipush (q := 163) dX12_readPersonFlag_161 kb_12 rfl ?_
          refine cV1i (q := 166) (d' := d + 6) dX12_readPersonFlag_163 mlX12_137 moX12_eats mvX12_eats k211 rfl rfl rfl (Nat.le_refl _) rfl rfl rfl (p_X12_eats tx N t f 12 hN hX hO h) (fun r9 m9 e9 => ?_)
          obtain ⟨M9, rfl⟩ : ∃ M9, M9 = m9 := ⟨_, rfl⟩
          obtain ⟨ey, en⟩ := e9
          refine Ev.if_eq (tgt := 188) (q := 169) dX12_readPersonFlag_166 (by decide) rfl (fun h10 => ?_) (fun h10 => ?_)
          · skip
            have hn12 : ¬ t.1 = 12 := fun z => by have := (ey z).1; omega
            obtain ⟨-, rfl⟩ := en hn12
            refine Ev.iconst (q := 189) dX12_readPersonFlag_188 ki_0 rfl ?_
            refine rZ dX12_readPersonFlag_189 rfl (by decide) ?_
            have hun : pf1 tx N p t f = none := by unfold pf1; rw [if_neg hn2, if_neg hn9, if_neg hn10, if_neg hn11, if_neg hn12]
            rw [hun]
            exact ⟨⟨rfl, rfl⟩, Fr.rf _ _⟩
          · skip
            have hk12 : t.1 = 12 := Classical.byContradiction fun z => by have := (en z).1; omega
            obtain ⟨-, x9, f9⟩ := ey hk12
            have hX9 := hX.q f9
            have hO9 := (tOK_nx hO).1
            rw [pf1_12 hk12]
            refine Ev.aload_n (q := 170) dX12_readPersonFlag_169 rfl rfl ?_
            refine gR (q := 173) dX12_readPersonFlag_170 gfX12_24 k211 r211_4 rfl rfl ?_
            refine Ev.bipush (q := 175) dX12_readPersonFlag_173 kb_52 rfl ?_
            refine Ev.iload_n (q := 176) dX12_readPersonFlag_175 rfl rfl ?_
            refine Ev.iadd (q := 177) dX12_readPersonFlag_176 rfl ?_
            refine Ev.aload_n (q := 178) dX12_readPersonFlag_177 rfl rfl ?_
            refine Ev.iconst (q := 179) dX12_readPersonFlag_178 ki_1 rfl ?_
            refine Ev.bipush (q := 181) dX12_readPersonFlag_179 kb_99 rfl ?_
            refine cV2i (q := 184) (d' := d + 6) dX12_readPersonFlag_181 mlX12_146 moX12_takes mvX12_takes k211 rfl rfl rfl (Nat.le_refl _) rfl rfl rfl (p_X12_takes tx N (nxS tx N t) f 1 99 hN hX9 hO9 x9) (fun r11 m11 e11 => ?_)
            obtain ⟨M8, rfl⟩ : ∃ M8, M8 = m11 := ⟨_, rfl⟩
            obtain ⟨x8, f8⟩ := e11
            cases hx : nuS tx N 1 99 (nxS tx N t) with
            | inl e =>
              rw [hx] at x8
              have x8 : BDm M8 e := x8
              refine sI (q := 185) (k := 52 + p) dX12_readPersonFlag_184 k215 (by first | rfl | omega | (simp (disch := omega) only [w32_of]; omega)) (by omega) rfl ?_
              refine Ev.goto (q := 190) dX12_readPersonFlag_185 (by decide) ?_
              refine Ev.aload_n (q := 191) dX12_readPersonFlag_190 rfl rfl ?_
              refine gI (q := 194) dX12_readPersonFlag_191 gfX12_102 k211 rfl rfl ?_
              rw [((x8).up _ _).1]
              refine Ev.if_ne (tgt := 201) (q := 197) dX12_readPersonFlag_194 (by decide) rfl (fun h61 => ?_) (fun h61 => ?_)
              · skip
                refine Ev.iconst (q := 202) dX12_readPersonFlag_201 ki_0 rfl ?_
                refine rZ dX12_readPersonFlag_202 rfl (by decide) ?_
                exact ⟨⟨rfl, (x8).up _ _⟩, (f9.tr f8).up rfl⟩
              · skip
                exact absurd (by assumption) x8.2.1
            | inr a =>
              rw [hx] at x8
              obtain ⟨xr, x8⟩ : _ = a.1 ∧ OKm M8 a.2 f := x8
              obtain ⟨n1, n2, n3, n4, n5⟩ := nu_inv hO9 hx
              rw [xr]
              refine sI (q := 185) (k := 52 + p) dX12_readPersonFlag_184 k215 (by first | rfl | omega | (simp (disch := omega) only [w32_of]; omega)) (by omega) rfl ?_
              refine Ev.goto (q := 190) dX12_readPersonFlag_185 (by decide) ?_
              refine Ev.aload_n (q := 191) dX12_readPersonFlag_190 rfl rfl ?_
              refine gI (q := 194) dX12_readPersonFlag_191 gfX12_102 k211 rfl rfl ?_
              rw [((x8).up _ _).1]
              refine Ev.if_ne (tgt := 201) (q := 197) dX12_readPersonFlag_194 (by decide) rfl (fun h61 => ?_) (fun h61 => ?_)
              · skip
                omega
              · skip
                refine Ev.iconst (q := 198) dX12_readPersonFlag_197 ki_1 rfl ?_
                refine Ev.goto (q := 202) dX12_readPersonFlag_198 (by decide) ?_
                refine rZ dX12_readPersonFlag_202 rfl (by decide) ?_
                exact ⟨⟨rfl, (x8).up _ _⟩, (f9.tr f8).up rfl⟩
        · skip
          have hk11 : t.1 = 11 := Classical.byContradiction fun z => by have := (en z).1; omega
          obtain ⟨-, x9, f9⟩ := ey hk11
          have hX9 := hX.q f9
          have hO9 := (tOK_nx hO).1
          rw [pf1_11 hk11]
          refine Ev.aload_n (q := 142) dX12_readPersonFlag_141 rfl rfl ?_
          refine gR (q := 145) dX12_readPersonFlag_142 gfX12_24 k211 r211_4 rfl rfl ?_
          refine Ev.bipush (q := 147) dX12_readPersonFlag_145 kb_44 rfl ?_
          refine Ev.iload_n (q := 148) dX12_readPersonFlag_147 rfl rfl ?_
          refine Ev.iadd (q := 149) dX12_readPersonFlag_148 rfl ?_
          refine Ev.aload_n (q := 150) dX12_readPersonFlag_149 rfl rfl ?_
          refine Ev.iconst (q := 151) dX12_readPersonFlag_150 ki_0 rfl ?_
          refine Ev.bipush (q := 153) dX12_readPersonFlag_151 kb_99 rfl ?_
          refine cV2i (q := 156) (d' := d + 6) dX12_readPersonFlag_153 mlX12_146 moX12_takes mvX12_takes k211 rfl rfl rfl (Nat.le_refl _) rfl rfl rfl (p_X12_takes tx N (nxS tx N t) f 0 99 hN hX9 hO9 x9) (fun r12 m12 e12 => ?_)
          obtain ⟨M8, rfl⟩ : ∃ M8, M8 = m12 := ⟨_, rfl⟩
          obtain ⟨x8, f8⟩ := e12
          cases hx : nuS tx N 0 99 (nxS tx N t) with
          | inl e =>
            rw [hx] at x8
            have x8 : BDm M8 e := x8
            refine sI (q := 157) (k := 44 + p) dX12_readPersonFlag_156 k215 (by first | rfl | omega | (simp (disch := omega) only [w32_of]; omega)) (by omega) rfl ?_
            refine Ev.goto (q := 190) dX12_readPersonFlag_157 (by decide) ?_
            refine Ev.aload_n (q := 191) dX12_readPersonFlag_190 rfl rfl ?_
            refine gI (q := 194) dX12_readPersonFlag_191 gfX12_102 k211 rfl rfl ?_
            rw [((x8).up _ _).1]
            refine Ev.if_ne (tgt := 201) (q := 197) dX12_readPersonFlag_194 (by decide) rfl (fun h61 => ?_) (fun h61 => ?_)
            · skip
              refine Ev.iconst (q := 202) dX12_readPersonFlag_201 ki_0 rfl ?_
              refine rZ dX12_readPersonFlag_202 rfl (by decide) ?_
              exact ⟨⟨rfl, (x8).up _ _⟩, (f9.tr f8).up rfl⟩
            · skip
              exact absurd (by assumption) x8.2.1
          | inr a =>
            rw [hx] at x8
            obtain ⟨xr, x8⟩ : _ = a.1 ∧ OKm M8 a.2 f := x8
            obtain ⟨n1, n2, n3, n4, n5⟩ := nu_inv hO9 hx
            rw [xr]
            refine sI (q := 157) (k := 44 + p) dX12_readPersonFlag_156 k215 (by first | rfl | omega | (simp (disch := omega) only [w32_of]; omega)) (by omega) rfl ?_
            refine Ev.goto (q := 190) dX12_readPersonFlag_157 (by decide) ?_
            refine Ev.aload_n (q := 191) dX12_readPersonFlag_190 rfl rfl ?_
            refine gI (q := 194) dX12_readPersonFlag_191 gfX12_102 k211 rfl rfl ?_
            rw [((x8).up _ _).1]
            refine Ev.if_ne (tgt := 201) (q := 197) dX12_readPersonFlag_194 (by decide) rfl (fun h61 => ?_) (fun h61 => ?_)
            · skip
              omega
            · skip
              refine Ev.iconst (q := 198) dX12_readPersonFlag_197 ki_1 rfl ?_
              refine Ev.goto (q := 202) dX12_readPersonFlag_198 (by decide) ?_
              refine rZ dX12_readPersonFlag_202 rfl (by decide) ?_
              exact ⟨⟨rfl, (x8).up _ _⟩, (f9.tr f8).up rfl⟩
      · skip
        have hk10 : t.1 = 10 := Classical.byContradiction fun z => by have := (en z).1; omega
        obtain ⟨-, x9, f9⟩ := ey hk10
        have hX9 := hX.q f9
        have hO9 := (tOK_nx hO).1
        rw [pf1_10 hk10]
        refine Ev.aload_n (q := 114) dX12_readPersonFlag_113 rfl rfl ?_
        refine gR (q := 117) dX12_readPersonFlag_114 gfX12_24 k211 r211_4 rfl rfl ?_
        refine Ev.bipush (q := 119) dX12_readPersonFlag_117 kb_36 rfl ?_
        refine Ev.iload_n (q := 120) dX12_readPersonFlag_119 rfl rfl ?_
        refine Ev.iadd (q := 121) dX12_readPersonFlag_120 rfl ?_
        refine Ev.aload_n (q := 122) dX12_readPersonFlag_121 rfl rfl ?_
        refine Ev.iconst (q := 123) dX12_readPersonFlag_122 ki_0 rfl ?_
        refine Ev.bipush (q := 125) dX12_readPersonFlag_123 kb_99 rfl ?_
        refine cV2i (q := 128) (d' := d + 6) dX12_readPersonFlag_125 mlX12_146 moX12_takes mvX12_takes k211 rfl rfl rfl (Nat.le_refl _) rfl rfl rfl (p_X12_takes tx N (nxS tx N t) f 0 99 hN hX9 hO9 x9) (fun r13 m13 e13 => ?_)
        obtain ⟨M8, rfl⟩ : ∃ M8, M8 = m13 := ⟨_, rfl⟩
        obtain ⟨x8, f8⟩ := e13
        cases hx : nuS tx N 0 99 (nxS tx N t) with
        | inl e =>
          rw [hx] at x8
          have x8 : BDm M8 e := x8
          refine sI (q := 129) (k := 36 + p) dX12_readPersonFlag_128 k215 (by first | rfl | omega | (simp (disch := omega) only [w32_of]; omega)) (by omega) rfl ?_
          refine Ev.goto (q := 190) dX12_readPersonFlag_129 (by decide) ?_
          refine Ev.aload_n (q := 191) dX12_readPersonFlag_190 rfl rfl ?_
          refine gI (q := 194) dX12_readPersonFlag_191 gfX12_102 k211 rfl rfl ?_
          rw [((x8).up _ _).1]
          refine Ev.if_ne (tgt := 201) (q := 197) dX12_readPersonFlag_194 (by decide) rfl (fun h61 => ?_) (fun h61 => ?_)
          · skip
            refine Ev.iconst (q := 202) dX12_readPersonFlag_201 ki_0 rfl ?_
            refine rZ dX12_readPersonFlag_202 rfl (by decide) ?_
            exact ⟨⟨rfl, (x8).up _ _⟩, (f9.tr f8).up rfl⟩
          · skip
            exact absurd (by assumption) x8.2.1
        | inr a =>
          rw [hx] at x8
          obtain ⟨xr, x8⟩ : _ = a.1 ∧ OKm M8 a.2 f := x8
          obtain ⟨n1, n2, n3, n4, n5⟩ := nu_inv hO9 hx
          rw [xr]
          refine sI (q := 129) (k := 36 + p) dX12_readPersonFlag_128 k215 (by first | rfl | omega | (simp (disch := omega) only [w32_of]; omega)) (by omega) rfl ?_
          refine Ev.goto (q := 190) dX12_readPersonFlag_129 (by decide) ?_
          refine Ev.aload_n (q := 191) dX12_readPersonFlag_190 rfl rfl ?_
          refine gI (q := 194) dX12_readPersonFlag_191 gfX12_102 k211 rfl rfl ?_
          rw [((x8).up _ _).1]
          refine Ev.if_ne (tgt := 201) (q := 197) dX12_readPersonFlag_194 (by decide) rfl (fun h61 => ?_) (fun h61 => ?_)
          · skip
            omega
          · skip
            refine Ev.iconst (q := 198) dX12_readPersonFlag_197 ki_1 rfl ?_
            refine Ev.goto (q := 202) dX12_readPersonFlag_198 (by decide) ?_
            refine rZ dX12_readPersonFlag_202 rfl (by decide) ?_
            exact ⟨⟨rfl, (x8).up _ _⟩, (f9.tr f8).up rfl⟩
    · skip
      have hk9 : t.1 = 9 := Classical.byContradiction fun z => by have := (en z).1; omega
      obtain ⟨-, x9, f9⟩ := ey hk9
      have hX9 := hX.q f9
      have hO9 := (tOK_nx hO).1
      rw [pf1_9 hk9]
      refine Ev.aload_n (q := 53) dX12_readPersonFlag_52 rfl rfl ?_
      refine Ev.iconst (q := 54) dX12_readPersonFlag_53 ki_0 rfl ?_
      refine Ev.aload_n (q := 55) dX12_readPersonFlag_54 rfl rfl ?_
      refine gR (q := 58) dX12_readPersonFlag_55 gfX12_24 k211 r211_4 rfl rfl ?_
      refine Ev.iconst (q := 59) dX12_readPersonFlag_58 ki_2 rfl ?_
      refine aI (q := 60) (k := 2) dX12_readPersonFlag_59 k215 (by rfl) (by decide) rfl ?_
      rw [x9.2.2]
      refine Ev.iconst (q := 61) dX12_readPersonFlag_60 ki_1 rfl ?_
      refine Ev.isub (q := 62) dX12_readPersonFlag_61 rfl ?_
      rw [w32_of (by omega) (by omega)]
      refine cV2i (q := 65) (d' := d + 6) dX12_readPersonFlag_62 mlX12_146 moX12_takes mvX12_takes k211 rfl rfl rfl (Nat.le_refl _) rfl rfl rfl (p_X12_takes tx N (nxS tx N t) f 0 (f 2 - 1) hN hX9 hO9 x9) (fun r14 m14 e14 => ?_)
      obtain ⟨M8, rfl⟩ : ∃ M8, M8 = m14 := ⟨_, rfl⟩
      obtain ⟨x8, f8⟩ := e14
      cases hx : nuS tx N 0 (f 2 - 1) (nxS tx N t) with
      | inl e =>
        rw [hx] at x8
        have x8 : BDm M8 e := x8
        refine istore_n_2 (q := 66) dX12_readPersonFlag_65 rfl rfl rfl ?_
        refine Ev.aload_n (q := 67) dX12_readPersonFlag_66 rfl rfl ?_
        refine gI (q := 70) dX12_readPersonFlag_67 gfX12_102 k211 rfl rfl ?_
        rw [x8.1]
        refine Ev.if_ne (tgt := 91) (q := 73) dX12_readPersonFlag_70 (by decide) rfl (fun h61 => ?_) (fun h61 => ?_)
        · skip
          refine Ev.aload_n (q := 92) dX12_readPersonFlag_91 rfl rfl ?_
          refine gR (q := 95) dX12_readPersonFlag_92 gfX12_24 k211 r211_4 rfl rfl ?_
          refine Ev.bipush (q := 97) dX12_readPersonFlag_95 kb_88 rfl ?_
          refine Ev.iload_n (q := 98) dX12_readPersonFlag_97 rfl rfl ?_
          refine Ev.iadd (q := 99) dX12_readPersonFlag_98 rfl ?_
          refine Ev.iload_n (q := 100) dX12_readPersonFlag_99 rfl rfl ?_
          refine sI (q := 101) (k := 88 + p) dX12_readPersonFlag_100 k215 (by first | rfl | omega | (simp (disch := omega) only [w32_of]; omega)) (by omega) rfl ?_
          refine Ev.goto (q := 190) dX12_readPersonFlag_101 (by decide) ?_
          refine Ev.aload_n (q := 191) dX12_readPersonFlag_190 rfl rfl ?_
          refine gI (q := 194) dX12_readPersonFlag_191 gfX12_102 k211 rfl rfl ?_
          rw [(x8.up _ _).1]
          refine Ev.if_ne (tgt := 201) (q := 197) dX12_readPersonFlag_194 (by decide) rfl (fun h62 => ?_) (fun h62 => ?_)
          · skip
            refine Ev.iconst (q := 202) dX12_readPersonFlag_201 ki_0 rfl ?_
            refine rZ dX12_readPersonFlag_202 rfl (by decide) ?_
            exact ⟨⟨rfl, x8.up _ _⟩, (f9.tr f8).up rfl⟩
          · skip
            exact absurd (by assumption) x8.2.1
        · skip
          exact absurd (by assumption) x8.2.1
      | inr a =>
        rw [hx] at x8
        obtain ⟨xr, x8⟩ : _ = a.1 ∧ OKm M8 a.2 f := x8
        obtain ⟨n1, n2, n3, n4, n5⟩ := nu_inv hO9 hx
        rw [xr]
        rw [show a.1 = ((a.1.toNat : Nat) : Int) by omega]
        refine istore_n_2 (q := 66) dX12_readPersonFlag_65 rfl rfl rfl ?_
        refine Ev.aload_n (q := 67) dX12_readPersonFlag_66 rfl rfl ?_
        refine gI (q := 70) dX12_readPersonFlag_67 gfX12_102 k211 rfl rfl ?_
        rw [x8.1]
        refine Ev.if_ne (tgt := 91) (q := 73) dX12_readPersonFlag_70 (by decide) rfl (fun h61 => ?_) (fun h61 => ?_)
        · skip
          omega
        · skip
          refine Ev.aload_n (q := 74) dX12_readPersonFlag_73 rfl rfl ?_
          refine gR (q := 77) dX12_readPersonFlag_74 gfX12_24 k211 r211_4 rfl rfl ?_
          refine Ev.bipush (q := 79) dX12_readPersonFlag_77 kb_72 rfl ?_
          refine Ev.iload_n (q := 80) dX12_readPersonFlag_79 rfl rfl ?_
          refine Ev.iadd (q := 81) dX12_readPersonFlag_80 rfl ?_
          refine Ev.aload_n (q := 82) dX12_readPersonFlag_81 rfl rfl ?_
          refine gR (q := 85) dX12_readPersonFlag_82 gfX12_24 k211 r211_4 rfl rfl ?_
          refine Ev.bipush (q := 87) dX12_readPersonFlag_85 kb_60 rfl ?_
          refine Ev.iload_n (q := 88) dX12_readPersonFlag_87 rfl rfl ?_
          refine Ev.iadd (q := 89) dX12_readPersonFlag_88 rfl ?_
          refine aI (q := 90) (k := 60 + a.1.toNat) dX12_readPersonFlag_89 k215 (by first | rfl | omega | (simp (disch := omega) only [w32_of]; omega)) (by omega) rfl ?_
          rw [x8.2.2]
          refine sI (q := 91) (k := 72 + p) dX12_readPersonFlag_90 k215 (by first | rfl | omega | (simp (disch := omega) only [w32_of]; omega)) (by omega) rfl ?_
          refine Ev.aload_n (q := 92) dX12_readPersonFlag_91 rfl rfl ?_
          refine gR (q := 95) dX12_readPersonFlag_92 gfX12_24 k211 r211_4 rfl rfl ?_
          refine Ev.bipush (q := 97) dX12_readPersonFlag_95 kb_88 rfl ?_
          refine Ev.iload_n (q := 98) dX12_readPersonFlag_97 rfl rfl ?_
          refine Ev.iadd (q := 99) dX12_readPersonFlag_98 rfl ?_
          refine Ev.iload_n (q := 100) dX12_readPersonFlag_99 rfl rfl ?_
          refine sI (q := 101) (k := 88 + p) dX12_readPersonFlag_100 k215 (by first | rfl | omega | (simp (disch := omega) only [w32_of]; omega)) (by omega) rfl ?_
          refine Ev.goto (q := 190) dX12_readPersonFlag_101 (by decide) ?_
          refine Ev.aload_n (q := 191) dX12_readPersonFlag_190 rfl rfl ?_
          refine gI (q := 194) dX12_readPersonFlag_191 gfX12_102 k211 rfl rfl ?_
          rw [((x8.up _ _).up _ _).1]
          refine Ev.if_ne (tgt := 201) (q := 197) dX12_readPersonFlag_194 (by decide) rfl (fun h62 => ?_) (fun h62 => ?_)
          · skip
            omega
          · skip
            refine Ev.iconst (q := 198) dX12_readPersonFlag_197 ki_1 rfl ?_
            refine Ev.goto (q := 202) dX12_readPersonFlag_198 (by decide) ?_
            refine rZ dX12_readPersonFlag_202 rfl (by decide) ?_
            refine ⟨⟨rfl, ?_⟩, ((f9.tr f8).up rfl).up rfl⟩
            have h9 := (x8.up (72 + p) (f (60 + a.1.toNat))).up (88 + p) ((a.1.toNat : Nat) : Int)
            rw [show ((a.1.toNat : Nat) : Int) = a.1 by omega] at h9 ⊢
            exact h9
  · skip
    have hk2 : t.1 = 2 := Classical.byContradiction fun z => by have := (en z).1; omega
    obtain ⟨-, x9, f9⟩ := ey hk2
    have hX9 := hX.q f9
    have hO9 := (tOK_nx hO).1
    rw [pf1_2 hk2]
    refine Ev.aload_n (q := 9) dX12_readPersonFlag_8 rfl rfl ?_
    refine gR (q := 12) dX12_readPersonFlag_9 gfX12_24 k211 r211_4 rfl rfl ?_
    refine Ev.bipush (q := 14) dX12_readPersonFlag_12 kb_72 rfl ?_
    refine Ev.iload_n (q := 15) dX12_readPersonFlag_14 rfl rfl ?_
    refine Ev.iadd (q := 16) dX12_readPersonFlag_15 rfl ?_
    refine Ev.aload_n (q := 17) dX12_readPersonFlag_16 rfl rfl ?_
    refine Ev.iconst (q := 18) dX12_readPersonFlag_17 ki_0 rfl ?_
    refine Ev.aload_n (q := 19) dX12_readPersonFlag_18 rfl rfl ?_
    refine gR (q := 22) dX12_readPersonFlag_19 gfX12_24 k211 r211_4 rfl rfl ?_
    refine Ev.iconst (q := 23) dX12_readPersonFlag_22 ki_1 rfl ?_
    refine aI (q := 24) (k := 1) dX12_readPersonFlag_23 k215 (by rfl) (by decide) rfl ?_
    rw [x9.2.2]
    refine Ev.iconst (q := 25) dX12_readPersonFlag_24 ki_1 rfl ?_
    refine Ev.isub (q := 26) dX12_readPersonFlag_25 rfl ?_
    rw [w32_of (by omega) (by omega)]
    refine cV2i (q := 29) (d' := d + 6) dX12_readPersonFlag_26 mlX12_146 moX12_takes mvX12_takes k211 rfl rfl rfl (Nat.le_refl _) rfl rfl rfl (p_X12_takes tx N (nxS tx N t) f 0 (f 1 - 1) hN hX9 hO9 x9) (fun r15 m15 e15 => ?_)
    obtain ⟨M8, rfl⟩ : ∃ M8, M8 = m15 := ⟨_, rfl⟩
    obtain ⟨x8, f8⟩ := e15
    cases hx : nuS tx N 0 (f 1 - 1) (nxS tx N t) with
    | inl e =>
      rw [hx] at x8
      have x8 : BDm M8 e := x8
      refine sI (q := 30) (k := 72 + p) dX12_readPersonFlag_29 k215 (by first | rfl | omega | (simp (disch := omega) only [w32_of]; omega)) (by omega) rfl ?_
      refine Ev.aload_n (q := 31) dX12_readPersonFlag_30 rfl rfl ?_
      refine gR (q := 34) dX12_readPersonFlag_31 gfX12_24 k211 r211_4 rfl rfl ?_
      refine Ev.bipush (q := 36) dX12_readPersonFlag_34 kb_88 rfl ?_
      refine Ev.iload_n (q := 37) dX12_readPersonFlag_36 rfl rfl ?_
      refine Ev.iadd (q := 38) dX12_readPersonFlag_37 rfl ?_
      refine Ev.iconst (q := 39) dX12_readPersonFlag_38 ki_m1 rfl ?_
      refine sI (q := 40) (k := 88 + p) dX12_readPersonFlag_39 k215 (by first | rfl | omega | (simp (disch := omega) only [w32_of]; omega)) (by omega) rfl ?_
      refine Ev.goto (q := 190) dX12_readPersonFlag_40 (by decide) ?_
      refine Ev.aload_n (q := 191) dX12_readPersonFlag_190 rfl rfl ?_
      refine gI (q := 194) dX12_readPersonFlag_191 gfX12_102 k211 rfl rfl ?_
      rw [(((x8).up _ _).up _ _).1]
      refine Ev.if_ne (tgt := 201) (q := 197) dX12_readPersonFlag_194 (by decide) rfl (fun h61 => ?_) (fun h61 => ?_)
      · skip
        refine Ev.iconst (q := 202) dX12_readPersonFlag_201 ki_0 rfl ?_
        refine rZ dX12_readPersonFlag_202 rfl (by decide) ?_
        exact ⟨⟨rfl, ((x8).up _ _).up _ _⟩, ((f9.tr f8).up rfl).up rfl⟩
      · skip
        exact absurd (by assumption) x8.2.1
    | inr a =>
      rw [hx] at x8
      obtain ⟨xr, x8⟩ : _ = a.1 ∧ OKm M8 a.2 f := x8
      obtain ⟨n1, n2, n3, n4, n5⟩ := nu_inv hO9 hx
      rw [xr]
      refine sI (q := 30) (k := 72 + p) dX12_readPersonFlag_29 k215 (by first | rfl | omega | (simp (disch := omega) only [w32_of]; omega)) (by omega) rfl ?_
      refine Ev.aload_n (q := 31) dX12_readPersonFlag_30 rfl rfl ?_
      refine gR (q := 34) dX12_readPersonFlag_31 gfX12_24 k211 r211_4 rfl rfl ?_
      refine Ev.bipush (q := 36) dX12_readPersonFlag_34 kb_88 rfl ?_
      refine Ev.iload_n (q := 37) dX12_readPersonFlag_36 rfl rfl ?_
      refine Ev.iadd (q := 38) dX12_readPersonFlag_37 rfl ?_
      refine Ev.iconst (q := 39) dX12_readPersonFlag_38 ki_m1 rfl ?_
      refine sI (q := 40) (k := 88 + p) dX12_readPersonFlag_39 k215 (by first | rfl | omega | (simp (disch := omega) only [w32_of]; omega)) (by omega) rfl ?_
      refine Ev.goto (q := 190) dX12_readPersonFlag_40 (by decide) ?_
      refine Ev.aload_n (q := 191) dX12_readPersonFlag_190 rfl rfl ?_
      refine gI (q := 194) dX12_readPersonFlag_191 gfX12_102 k211 rfl rfl ?_
      rw [(((x8).up _ _).up _ _).1]
      refine Ev.if_ne (tgt := 201) (q := 197) dX12_readPersonFlag_194 (by decide) rfl (fun h61 => ?_) (fun h61 => ?_)
      · skip
        omega
      · skip
        refine Ev.iconst (q := 198) dX12_readPersonFlag_197 ki_1 rfl ?_
        refine Ev.goto (q := 202) dX12_readPersonFlag_198 (by decide) ?_
        refine rZ dX12_readPersonFlag_202 rfl (by decide) ?_
        exact ⟨⟨rfl, ((x8).up _ _).up _ _⟩, ((f9.tr f8).up rfl).up rfl⟩
set_option maxRecDepth 4000 in
theorem l_X12_readLift {Γ : Gm} {d : Nat} {m0 : Mem} (tx : Nat → Int) (N l : Nat) (hN : N ≤ 900) (hl : l < 3) : ∀ (n : Nat) (t : Tok) (f : Row) (M : Mem), OKm M t f → tOK tx N t → TX M tx N → RI f → f 2 = l → N - t.2.1 + 1 ≤ n → Fr sPq m0 M → Em Γ (d + 9) MX12_readLift (fun r m' => PM m' (bE (lfR tx N l n t f) fun b => .inr (b.1, upg b.2 2 (b.2 2 + 1))) ∧ Fr sPq m0 m') 95 [rv 211, iv l] [] M := by
  intro n
  induction n with
  | zero => intro t f M h hO hX hR h2 hn; omega
  | succ n ih =>
    intro t f M h hO hX hR h2 hn hF
    refine Ev.aload_n (q := 96) dX12_readLift_95 rfl rfl ?_
    refine gI (q := 99) dX12_readLift_96 gfX12_102 k211 rfl rfl ?_
    rw [h.1]
    refine Ev.if_ne (tgt := 113) (q := 102) dX12_readLift_99 (by decide) rfl (fun h1 => ?_) (fun h1 => ?_)
    · skip
      omega
    · skip
      refine Ev.aload_n (q := 103) dX12_readLift_102 rfl rfl ?_
      refine Ev.iload_n (q := 104) dX12_readLift_103 rfl rfl ?_
      refine cV1i (q := 107) (d' := d + 8) dX12_readLift_104 mlX12_153 moX12_readLiftFlag mvX12_readLiftFlag k211 rfl rfl rfl (Nat.le_refl _) rfl rfl rfl (p_X12_readLiftFlag tx N t f l hN hX hO h hR hl) (fun r2 m2 e2 => ?_)
      obtain ⟨M8, rfl⟩ : ∃ M8, M8 = m2 := ⟨_, rfl⟩
      obtain ⟨x8, f8⟩ := e2
      cases hx : lf1 tx N l t f with
      | none =>
        rw [hx] at x8
        obtain ⟨x8, rfl⟩ : _ = 0 ∧ M8 = M := x8
        rw [x8]
        refine Ev.if_eq (tgt := 113) (q := 110) dX12_readLift_107 (by decide) rfl (fun h61 => ?_) (fun h61 => ?_)
        · skip
          refine Ev.aload_n (q := 114) dX12_readLift_113 rfl rfl ?_
          refine gI (q := 117) dX12_readLift_114 gfX12_102 k211 rfl rfl ?_
          rw [h.1]
          refine Ev.if_ne (tgt := 130) (q := 120) dX12_readLift_117 (by decide) rfl (fun h81 => ?_) (fun h81 => ?_)
          · skip
            omega
          · skip
            refine Ev.aload_n (q := 121) dX12_readLift_120 rfl rfl ?_
            refine gR (q := 124) dX12_readLift_121 gfX12_24 k211 r211_4 rfl rfl ?_
            refine Ev.iconst (q := 125) dX12_readLift_124 ki_2 rfl ?_
            refine Ev.dup2 (q := 126) dX12_readLift_125 (fun z => by cases z) (fun z => by cases z) rfl ?_
            refine aI (q := 127) (k := 2) dX12_readLift_126 k215 (by rfl) (by decide) rfl ?_
            rw [h.2.2, h2]
            refine Ev.iconst (q := 128) dX12_readLift_127 ki_1 rfl ?_
            refine Ev.iadd (q := 129) dX12_readLift_128 rfl ?_
            refine sI (q := 130) (k := 2) dX12_readLift_129 k215 (by rfl) (by decide) rfl ?_
            refine rV dX12_readLift_130 rfl ?_
            rw [w32_of (by omega) (by omega)]
            have h9 := h.up 2 ((l : Int) + 1)
            rw [lfR_1, hx]
            refine ⟨?_, hF.up rfl⟩
            show OKm _ t (upg f 2 (f 2 + 1))
            rw [h2]
            exact h9
        · skip
          omega
      | some x =>
        cases x with
        | inl e =>
          rw [hx] at x8
          obtain ⟨xr, x8⟩ : _ = 0 ∧ BDm M8 e := x8
          rw [xr]
          refine Ev.if_eq (tgt := 113) (q := 110) dX12_readLift_107 (by decide) rfl (fun h61 => ?_) (fun h61 => ?_)
          · skip
            refine Ev.aload_n (q := 114) dX12_readLift_113 rfl rfl ?_
            refine gI (q := 117) dX12_readLift_114 gfX12_102 k211 rfl rfl ?_
            rw [(x8).1]
            refine Ev.if_ne (tgt := 130) (q := 120) dX12_readLift_117 (by decide) rfl (fun h81 => ?_) (fun h81 => ?_)
            · skip
              refine rV dX12_readLift_130 rfl ?_
              rw [lfR_1, hx]
              exact ⟨x8, hF.tr f8⟩
            · skip
              exact absurd (by assumption) (x8).2.1
          · skip
            omega
        | inr a =>
          rw [hx] at x8
          obtain ⟨xr, x8⟩ : _ = 1 ∧ OKm M8 a.1 a.2 := x8
          rw [xr]
          have q := lf1_ok hO hR hx
          have hle2 := tO_le q.1
          refine Ev.if_eq (tgt := 113) (q := 110) dX12_readLift_107 (by decide) rfl (fun h61 => ?_) (fun h61 => ?_)
          · skip
            omega
          · skip
            refine Ev.goto (q := 95) dX12_readLift_110 (by decide) ?_
            rw [lfR_1, hx]
            exact ih a.1 a.2 M8 x8 q.1 (hX.q f8) q.2.2.1 (by rw [q.2.2.2.1]; exact h2) (by omega) (hF.tr f8)
set_option maxRecDepth 4000 in
theorem p_X12_readLift {Γ : Gm} {d : Nat} {m : Mem} (tx : Nat → Int) (N : Nat) (t : Tok) (f : Row) (hN : N ≤ 900) (hX : TX m tx N) (hO : tOK tx N t) (h : OKm m t f) (hR : RI f) : Ci Γ (d + 9) MX12_readLift [rv 211] m (fun r m' => PM m' (liS tx N t f) ∧ Fr sPq m m') := by
  refine Ci.of moX12_readLift rfl rfl (fun hA hM => ?_)
  show Em Γ (d + 9) MX12_readLift _ 0 [rv 211, uv] [] m
  obtain ⟨hR1, hR2, hR3⟩ := hR
  have hR : RI f := ⟨hR1, hR2, hR3⟩
  obtain ⟨l, hl9⟩ : ∃ l : Nat, f 2 = l := ⟨(f 2).toNat, by omega⟩
  refine Ev.aload_n (q := 1) dX12_readLift_0 rfl rfl ?_
  refine gR (q := 4) dX12_readLift_1 gfX12_24 k211 r211_4 rfl rfl ?_
  refine Ev.iconst (q := 5) dX12_readLift_4 ki_2 rfl ?_
  refine aI (q := 6) (k := 2) dX12_readLift_5 k215 (by rfl) (by decide) rfl ?_
  rw [h.2.2, hl9]
  refine istore_n_1 (q := 7) dX12_readLift_6 rfl rfl rfl ?_
  refine Ev.iload_n (q := 8) dX12_readLift_7 rfl rfl ?_
  refine Ev.iconst (q := 9) dX12_readLift_8 ki_3 rfl ?_
  refine Ev.icmp_ne (tgt := 17) (q := 12) dX12_readLift_9 (by decide) rfl (fun h1 => ?_) (fun h1 => ?_)
  · skip
    have hfull : ¬ f 2 = 3 := by omega
    refine Ev.aload_n (q := 18) dX12_readLift_17 rfl rfl ?_
    refine gI (q := 21) dX12_readLift_18 gfX12_102 k211 rfl rfl ?_
    rw [h.1]
    refine Ev.if_eq (tgt := 25) (q := 24) dX12_readLift_21 (by decide) rfl (fun h61 => ?_) (fun h61 => ?_)
    · skip
      refine Ev.aload_n (q := 26) dX12_readLift_25 rfl rfl ?_
      refine cV0v (q := 29) (d' := d + 8) dX12_readLift_26 mlX12_111 moX12_next mvX12_next k211 rfl rfl rfl (Nat.le_refl _) rfl rfl rfl (p_X12_next N t.2.2.1 hN hO.2.1 hX.1 h.2.1.2.2.1) (fun r62 m62 e62 => ?_)
      obtain ⟨M9, rfl⟩ : ∃ M9, M9 = m62 := ⟨_, rfl⟩
      obtain ⟨y1, y2⟩ := e62
      rw [hX.2] at y1
      have x9 := OKm_nx h (show TkM M9 (nxS tx N t) from y1) y2
      have f9 := y2.pq
      have hX9 := hX.q f9
      have hO9 := (tOK_nx hO).1
      refine Ev.aload_n (q := 30) dX12_readLift_29 rfl rfl ?_
      refine Ev.iconst (q := 31) dX12_readLift_30 ki_2 rfl ?_
      refine cV1i (q := 34) (d' := d + 8) dX12_readLift_31 mlX12_137 moX12_eats mvX12_eats k211 rfl rfl rfl (Nat.le_refl _) rfl rfl rfl (p_X12_eats tx N (nxS tx N t) f 2 hN hX9 hO9 x9) (fun r63 m63 e63 => ?_)
      obtain ⟨M7, rfl⟩ : ∃ M7, M7 = m63 := ⟨_, rfl⟩
      obtain ⟨ey, en⟩ := e63
      refine Ev.if_ne (tgt := 42) (q := 37) dX12_readLift_34 (by decide) rfl (fun h64 => ?_) (fun h64 => ?_)
      · skip
        have hk : (nxS tx N t).1 = 2 := Classical.byContradiction fun z => by have := (en z).1; omega
        obtain ⟨-, x7, f7⟩ := ey hk
        have hX7 := hX9.q f7
        have hea : eaS tx N 2 (nxS tx N t) = .inr (nxS tx N (nxS tx N t)) := by unfold eaS; rw [if_pos hk]
        have hO7 := (tOK_nx hO9).1
        refine Ev.aload_n (q := 43) dX12_readLift_42 rfl rfl ?_
        refine gR (q := 46) dX12_readLift_43 gfX12_24 k211 r211_4 rfl rfl ?_
        refine Ev.bipush (q := 48) dX12_readLift_46 kb_60 rfl ?_
        refine Ev.iload_n (q := 49) dX12_readLift_48 rfl rfl ?_
        refine Ev.iadd (q := 50) dX12_readLift_49 rfl ?_
        refine Ev.aload_n (q := 51) dX12_readLift_50 rfl rfl ?_
        refine Ev.iconst (q := 52) dX12_readLift_51 ki_0 rfl ?_
        refine Ev.aload_n (q := 53) dX12_readLift_52 rfl rfl ?_
        refine gR (q := 56) dX12_readLift_53 gfX12_24 k211 r211_4 rfl rfl ?_
        refine Ev.iconst (q := 57) dX12_readLift_56 ki_1 rfl ?_
        refine aI (q := 58) (k := 1) dX12_readLift_57 k215 (by rfl) (by decide) rfl ?_
        rw [x7.2.2]
        refine Ev.iconst (q := 59) dX12_readLift_58 ki_1 rfl ?_
        refine Ev.isub (q := 60) dX12_readLift_59 rfl ?_
        rw [w32_of (by omega) (by omega)]
        refine cV2i (q := 63) (d' := d + 8) dX12_readLift_60 mlX12_146 moX12_takes mvX12_takes k211 rfl rfl rfl (Nat.le_refl _) rfl rfl rfl (p_X12_takes tx N (nxS tx N (nxS tx N t)) f 0 (f 1 - 1) hN hX7 hO7 x7) (fun r71 m71 e71 => ?_)
        obtain ⟨M8, rfl⟩ : ∃ M8, M8 = m71 := ⟨_, rfl⟩
        obtain ⟨x8, f8⟩ := e71
        cases hx : nuS tx N 0 (f 1 - 1) (nxS tx N (nxS tx N t)) with
        | inl e =>
          rw [hx] at x8
          have x8 : BDm M8 e := x8
          refine sI (q := 64) (k := 60 + l) dX12_readLift_63 k215 (by first | rfl | omega | (simp (disch := omega) only [w32_of]; omega)) (by omega) rfl ?_
          refine Ev.aload_n (q := 65) dX12_readLift_64 rfl rfl ?_
          refine gR (q := 68) dX12_readLift_65 gfX12_24 k211 r211_4 rfl rfl ?_
          refine Ev.bipush (q := 70) dX12_readLift_68 kb_22 rfl ?_
          refine Ev.iload_n (q := 71) dX12_readLift_70 rfl rfl ?_
          refine Ev.iadd (q := 72) dX12_readLift_71 rfl ?_
          refine Ev.iconst (q := 73) dX12_readLift_72 ki_3 rfl ?_
          refine sI (q := 74) (k := 22 + l) dX12_readLift_73 k215 (by first | rfl | omega | (simp (disch := omega) only [w32_of]; omega)) (by omega) rfl ?_
          refine Ev.aload_n (q := 75) dX12_readLift_74 rfl rfl ?_
          refine gR (q := 78) dX12_readLift_75 gfX12_24 k211 r211_4 rfl rfl ?_
          refine Ev.bipush (q := 80) dX12_readLift_78 kb_25 rfl ?_
          refine Ev.iload_n (q := 81) dX12_readLift_80 rfl rfl ?_
          refine Ev.iadd (q := 82) dX12_readLift_81 rfl ?_
          refine Ev.bipush (q := 84) dX12_readLift_82 kb_8 rfl ?_
          refine sI (q := 85) (k := 25 + l) dX12_readLift_84 k215 (by first | rfl | omega | (simp (disch := omega) only [w32_of]; omega)) (by omega) rfl ?_
          refine Ev.aload_n (q := 86) dX12_readLift_85 rfl rfl ?_
          refine gR (q := 89) dX12_readLift_86 gfX12_24 k211 r211_4 rfl rfl ?_
          refine Ev.bipush (q := 91) dX12_readLift_89 kb_69 rfl ?_
          refine Ev.iload_n (q := 92) dX12_readLift_91 rfl rfl ?_
          refine Ev.iadd (q := 93) dX12_readLift_92 rfl ?_
          refine Ev.iconst (q := 94) dX12_readLift_93 ki_1 rfl ?_
          refine sI (q := 95) (k := 69 + l) dX12_readLift_94 k215 (by first | rfl | omega | (simp (disch := omega) only [w32_of]; omega)) (by omega) rfl ?_
          refine Ev.aload_n (q := 96) dX12_readLift_95 rfl rfl ?_
          refine gI (q := 99) dX12_readLift_96 gfX12_102 k211 rfl rfl ?_
          rw [(((((x8).up _ _).up _ _).up _ _).up _ _).1]
          refine Ev.if_ne (tgt := 113) (q := 102) dX12_readLift_99 (by decide) rfl (fun h91 => ?_) (fun h91 => ?_)
          · skip
            refine Ev.aload_n (q := 114) dX12_readLift_113 rfl rfl ?_
            refine gI (q := 117) dX12_readLift_114 gfX12_102 k211 rfl rfl ?_
            rw [(((((x8).up _ _).up _ _).up _ _).up _ _).1]
            refine Ev.if_ne (tgt := 130) (q := 120) dX12_readLift_117 (by decide) rfl (fun h92 => ?_) (fun h92 => ?_)
            · skip
              refine rV dX12_readLift_130 rfl ?_
              unfold liS
              rw [if_neg hfull, bE_r hea, bE_l hx]
              exact ⟨((((x8).up _ _).up _ _).up _ _).up _ _, ((((f9.tr (f7.tr f8)).up rfl).up rfl).up rfl).up rfl⟩
            · skip
              exact absurd (by assumption) x8.2.1
          · skip
            exact absurd (by assumption) x8.2.1
        | inr a =>
          rw [hx] at x8
          obtain ⟨xr, x8⟩ : _ = a.1 ∧ OKm M8 a.2 f := x8
          obtain ⟨n1, n2, n3, n4, n5⟩ := nu_inv hO7 hx
          have hle2 := tO_le n4
          rw [xr]
          refine sI (q := 64) (k := 60 + l) dX12_readLift_63 k215 (by first | rfl | omega | (simp (disch := omega) only [w32_of]; omega)) (by omega) rfl ?_
          refine Ev.aload_n (q := 65) dX12_readLift_64 rfl rfl ?_
          refine gR (q := 68) dX12_readLift_65 gfX12_24 k211 r211_4 rfl rfl ?_
          refine Ev.bipush (q := 70) dX12_readLift_68 kb_22 rfl ?_
          refine Ev.iload_n (q := 71) dX12_readLift_70 rfl rfl ?_
          refine Ev.iadd (q := 72) dX12_readLift_71 rfl ?_
          refine Ev.iconst (q := 73) dX12_readLift_72 ki_3 rfl ?_
          refine sI (q := 74) (k := 22 + l) dX12_readLift_73 k215 (by first | rfl | omega | (simp (disch := omega) only [w32_of]; omega)) (by omega) rfl ?_
          refine Ev.aload_n (q := 75) dX12_readLift_74 rfl rfl ?_
          refine gR (q := 78) dX12_readLift_75 gfX12_24 k211 r211_4 rfl rfl ?_
          refine Ev.bipush (q := 80) dX12_readLift_78 kb_25 rfl ?_
          refine Ev.iload_n (q := 81) dX12_readLift_80 rfl rfl ?_
          refine Ev.iadd (q := 82) dX12_readLift_81 rfl ?_
          refine Ev.bipush (q := 84) dX12_readLift_82 kb_8 rfl ?_
          refine sI (q := 85) (k := 25 + l) dX12_readLift_84 k215 (by first | rfl | omega | (simp (disch := omega) only [w32_of]; omega)) (by omega) rfl ?_
          refine Ev.aload_n (q := 86) dX12_readLift_85 rfl rfl ?_
          refine gR (q := 89) dX12_readLift_86 gfX12_24 k211 r211_4 rfl rfl ?_
          refine Ev.bipush (q := 91) dX12_readLift_89 kb_69 rfl ?_
          refine Ev.iload_n (q := 92) dX12_readLift_91 rfl rfl ?_
          refine Ev.iadd (q := 93) dX12_readLift_92 rfl ?_
          refine Ev.iconst (q := 94) dX12_readLift_93 ki_1 rfl ?_
          refine sI (q := 95) (k := 69 + l) dX12_readLift_94 k215 (by first | rfl | omega | (simp (disch := omega) only [w32_of]; omega)) (by omega) rfl ?_
          refine (l_X12_readLift (m0 := m) tx N l hN (by omega) (N + 1) a.2 (upg (upg (upg (upg f (60 + l) a.1) (22 + l) 3) (25 + l) 8) (69 + l) 1) _ (((((x8).up _ _).up _ _).up _ _).up _ _) n4 ((hX7.q f8).q (((((Fr.rf _ _).up rfl).up rfl).up rfl).up rfl)) ((((hR.up (by omega) _).up (by omega) _).up (by omega) _).up (by omega) _) (by rw [upg_ne _ _ (by omega), upg_ne _ _ (by omega), upg_ne _ _ (by omega), upg_ne _ _ (by omega)]; exact hl9) (by omega) (((((f9.tr (f7.tr f8)).up rfl).up rfl).up rfl).up rfl)).imp ?_
          intro r9 m9 h9
          unfold liS
          rw [if_neg hfull, bE_r hea, bE_r hx, hl9, Int.toNat_natCast]
          exact h9
      · skip
        have hk : ¬ (nxS tx N t).1 = 2 := fun z => by have := (ey z).1; omega
        obtain ⟨-, rfl⟩ := en hk
        have hea : eaS tx N 2 (nxS tx N t) = flS (nxS tx N t) 2 := by unfold eaS; rw [if_neg hk]
        refine Ev.aload_n (q := 38) dX12_readLift_37 rfl rfl ?_
        refine Ev.iconst (q := 39) dX12_readLift_38 ki_2 rfl ?_
        refine cV1v (q := 42) (d' := d + 8) dX12_readLift_39 mlX12_114 moX12_fails mvX12_fails k211 rfl rfl rfl (Nat.le_refl _) rfl rfl rfl (p_X12_fails (nxS tx N t) f 2 (by decide) x9) (fun r65 m65 e65 => ?_)
        obtain ⟨M6, rfl⟩ : ∃ M6, M6 = m65 := ⟨_, rfl⟩
        obtain ⟨b1, b2⟩ := e65
        refine Ev.aload_n (q := 43) dX12_readLift_42 rfl rfl ?_
        refine gR (q := 46) dX12_readLift_43 gfX12_24 k211 r211_4 rfl rfl ?_
        refine Ev.bipush (q := 48) dX12_readLift_46 kb_60 rfl ?_
        refine Ev.iload_n (q := 49) dX12_readLift_48 rfl rfl ?_
        refine Ev.iadd (q := 50) dX12_readLift_49 rfl ?_
        refine Ev.aload_n (q := 51) dX12_readLift_50 rfl rfl ?_
        refine Ev.iconst (q := 52) dX12_readLift_51 ki_0 rfl ?_
        refine Ev.aload_n (q := 53) dX12_readLift_52 rfl rfl ?_
        refine gR (q := 56) dX12_readLift_53 gfX12_24 k211 r211_4 rfl rfl ?_
        refine Ev.iconst (q := 57) dX12_readLift_56 ki_1 rfl ?_
        refine aI (q := 58) (k := 1) dX12_readLift_57 k215 (by rfl) (by decide) rfl ?_
        refine Ev.iconst (q := 59) dX12_readLift_58 ki_1 rfl ?_
        refine Ev.isub (q := 60) dX12_readLift_59 rfl ?_
        refine cV2i (q := 63) (d' := d + 8) dX12_readLift_60 mlX12_146 moX12_takes mvX12_takes k211 rfl rfl rfl (Nat.le_refl _) rfl rfl rfl (p_X12_takes_bd _ _ _ b1) (fun r91 m91 e91 => ?_)
        obtain rfl := (show _ = _ from e91).symm
        refine sI (q := 64) (k := 60 + l) dX12_readLift_63 k215 (by first | rfl | omega | (simp (disch := omega) only [w32_of]; omega)) (by omega) rfl ?_
        refine Ev.aload_n (q := 65) dX12_readLift_64 rfl rfl ?_
        refine gR (q := 68) dX12_readLift_65 gfX12_24 k211 r211_4 rfl rfl ?_
        refine Ev.bipush (q := 70) dX12_readLift_68 kb_22 rfl ?_
        refine Ev.iload_n (q := 71) dX12_readLift_70 rfl rfl ?_
        refine Ev.iadd (q := 72) dX12_readLift_71 rfl ?_
        refine Ev.iconst (q := 73) dX12_readLift_72 ki_3 rfl ?_
        refine sI (q := 74) (k := 22 + l) dX12_readLift_73 k215 (by first | rfl | omega | (simp (disch := omega) only [w32_of]; omega)) (by omega) rfl ?_
        refine Ev.aload_n (q := 75) dX12_readLift_74 rfl rfl ?_
        refine gR (q := 78) dX12_readLift_75 gfX12_24 k211 r211_4 rfl rfl ?_
        refine Ev.bipush (q := 80) dX12_readLift_78 kb_25 rfl ?_
        refine Ev.iload_n (q := 81) dX12_readLift_80 rfl rfl ?_
        refine Ev.iadd (q := 82) dX12_readLift_81 rfl ?_
        refine Ev.bipush (q := 84) dX12_readLift_82 kb_8 rfl ?_
        refine sI (q := 85) (k := 25 + l) dX12_readLift_84 k215 (by first | rfl | omega | (simp (disch := omega) only [w32_of]; omega)) (by omega) rfl ?_
        refine Ev.aload_n (q := 86) dX12_readLift_85 rfl rfl ?_
        refine gR (q := 89) dX12_readLift_86 gfX12_24 k211 r211_4 rfl rfl ?_
        refine Ev.bipush (q := 91) dX12_readLift_89 kb_69 rfl ?_
        refine Ev.iload_n (q := 92) dX12_readLift_91 rfl rfl ?_
        refine Ev.iadd (q := 93) dX12_readLift_92 rfl ?_
        refine Ev.iconst (q := 94) dX12_readLift_93 ki_1 rfl ?_
        refine sI (q := 95) (k := 69 + l) dX12_readLift_94 k215 (by first | rfl | omega | (simp (disch := omega) only [w32_of]; omega)) (by omega) rfl ?_
        refine Ev.aload_n (q := 96) dX12_readLift_95 rfl rfl ?_
        refine gI (q := 99) dX12_readLift_96 gfX12_102 k211 rfl rfl ?_
        rw [(((((b1).up _ _).up _ _).up _ _).up _ _).1]
        refine Ev.if_ne (tgt := 113) (q := 102) dX12_readLift_99 (by decide) rfl (fun h92 => ?_) (fun h92 => ?_)
        · skip
          refine Ev.aload_n (q := 114) dX12_readLift_113 rfl rfl ?_
          refine gI (q := 117) dX12_readLift_114 gfX12_102 k211 rfl rfl ?_
          rw [(((((b1).up _ _).up _ _).up _ _).up _ _).1]
          refine Ev.if_ne (tgt := 130) (q := 120) dX12_readLift_117 (by decide) rfl (fun h93 => ?_) (fun h93 => ?_)
          · skip
            refine rV dX12_readLift_130 rfl ?_
            unfold liS
            rw [if_neg hfull, bE_l (hea.trans rfl)]
            exact ⟨((((b1).up _ _).up _ _).up _ _).up _ _, ((((f9.tr b2).up rfl).up rfl).up rfl).up rfl⟩
          · skip
            exact absurd (by assumption) b1.2.1
        · skip
          exact absurd (by assumption) b1.2.1
    · skip
      omega
  · skip
    refine Ev.aload_n (q := 13) dX12_readLift_12 rfl rfl ?_
    refine Ev.iconst (q := 14) dX12_readLift_13 ki_4 rfl ?_
    refine cV1v (q := 17) (d' := d + 8) dX12_readLift_14 mlX12_114 moX12_fails mvX12_fails k211 rfl rfl rfl (Nat.le_refl _) rfl rfl rfl (p_X12_fails t f 4 (by decide) h) (fun r2 m2 e2 => ?_)
    obtain ⟨M9, rfl⟩ : ∃ M9, M9 = m2 := ⟨_, rfl⟩
    obtain ⟨b1, b2⟩ := e2
    have hfull : f 2 = 3 := by omega
    refine Ev.aload_n (q := 18) dX12_readLift_17 rfl rfl ?_
    refine gI (q := 21) dX12_readLift_18 gfX12_102 k211 rfl rfl ?_
    rw [b1.1]
    refine Ev.if_eq (tgt := 25) (q := 24) dX12_readLift_21 (by decide) rfl (fun h61 => ?_) (fun h61 => ?_)
    · skip
      exact absurd (by assumption) b1.2.1
    · skip
      refine rV dX12_readLift_24 rfl ?_
      unfold liS
      rw [if_pos hfull]
      exact ⟨b1, b2⟩
set_option maxRecDepth 4000 in
theorem l_X12_readPerson {Γ : Gm} {d : Nat} {m0 : Mem} (tx : Nat → Int) (N p : Nat) (hN : N ≤ 900) (hl : p < 8) : ∀ (n : Nat) (t : Tok) (f : Row) (M : Mem), OKm M t f → tOK tx N t → TX M tx N → RI f → f 3 = p → N - t.2.1 + 1 ≤ n → Fr sPq m0 M → Em Γ (d + 8) MX12_readPerson (fun r m' => PM m' (bE (pfR tx N p n t f) fun b => .inr (b.1, upg b.2 3 (b.2 3 + 1))) ∧ Fr sPq m0 m') 96 [rv 211, iv p] [] M := by
  intro n
  induction n with
  | zero => intro t f M h hO hX hR h2 hn; omega
  | succ n ih =>
    intro t f M h hO hX hR h2 hn hF
    refine Ev.aload_n (q := 97) dX12_readPerson_96 rfl rfl ?_
    refine gI (q := 100) dX12_readPerson_97 gfX12_102 k211 rfl rfl ?_
    rw [h.1]
    refine Ev.if_ne (tgt := 114) (q := 103) dX12_readPerson_100 (by decide) rfl (fun h1 => ?_) (fun h1 => ?_)
    · skip
      omega
    · skip
      refine Ev.aload_n (q := 104) dX12_readPerson_103 rfl rfl ?_
      refine Ev.iload_n (q := 105) dX12_readPerson_104 rfl rfl ?_
      refine cV1i (q := 108) (d' := d + 7) dX12_readPerson_105 mlX12_156 moX12_readPersonFlag mvX12_readPersonFlag k211 rfl rfl rfl (Nat.le_refl _) rfl rfl rfl (p_X12_readPersonFlag tx N t f p hN hX hO h hR hl) (fun r2 m2 e2 => ?_)
      obtain ⟨M8, rfl⟩ : ∃ M8, M8 = m2 := ⟨_, rfl⟩
      obtain ⟨x8, f8⟩ := e2
      cases hx : pf1 tx N p t f with
      | none =>
        rw [hx] at x8
        obtain ⟨x8, rfl⟩ : _ = 0 ∧ M8 = M := x8
        rw [x8]
        refine Ev.if_eq (tgt := 114) (q := 111) dX12_readPerson_108 (by decide) rfl (fun h61 => ?_) (fun h61 => ?_)
        · skip
          refine Ev.aload_n (q := 115) dX12_readPerson_114 rfl rfl ?_
          refine gI (q := 118) dX12_readPerson_115 gfX12_102 k211 rfl rfl ?_
          rw [h.1]
          refine Ev.if_ne (tgt := 131) (q := 121) dX12_readPerson_118 (by decide) rfl (fun h81 => ?_) (fun h81 => ?_)
          · skip
            omega
          · skip
            refine Ev.aload_n (q := 122) dX12_readPerson_121 rfl rfl ?_
            refine gR (q := 125) dX12_readPerson_122 gfX12_24 k211 r211_4 rfl rfl ?_
            refine Ev.iconst (q := 126) dX12_readPerson_125 ki_3 rfl ?_
            refine Ev.dup2 (q := 127) dX12_readPerson_126 (fun z => by cases z) (fun z => by cases z) rfl ?_
            refine aI (q := 128) (k := 3) dX12_readPerson_127 k215 (by rfl) (by decide) rfl ?_
            rw [h.2.2, h2]
            refine Ev.iconst (q := 129) dX12_readPerson_128 ki_1 rfl ?_
            refine Ev.iadd (q := 130) dX12_readPerson_129 rfl ?_
            refine sI (q := 131) (k := 3) dX12_readPerson_130 k215 (by rfl) (by decide) rfl ?_
            refine rV dX12_readPerson_131 rfl ?_
            rw [w32_of (by omega) (by omega)]
            have h9 := h.up 3 ((p : Int) + 1)
            rw [pfR_1, hx]
            refine ⟨?_, hF.up rfl⟩
            show OKm _ t (upg f 3 (f 3 + 1))
            rw [h2]
            exact h9
        · skip
          omega
      | some x =>
        cases x with
        | inl e =>
          rw [hx] at x8
          obtain ⟨xr, x8⟩ : _ = 0 ∧ BDm M8 e := x8
          rw [xr]
          refine Ev.if_eq (tgt := 114) (q := 111) dX12_readPerson_108 (by decide) rfl (fun h61 => ?_) (fun h61 => ?_)
          · skip
            refine Ev.aload_n (q := 115) dX12_readPerson_114 rfl rfl ?_
            refine gI (q := 118) dX12_readPerson_115 gfX12_102 k211 rfl rfl ?_
            rw [(x8).1]
            refine Ev.if_ne (tgt := 131) (q := 121) dX12_readPerson_118 (by decide) rfl (fun h81 => ?_) (fun h81 => ?_)
            · skip
              refine rV dX12_readPerson_131 rfl ?_
              rw [pfR_1, hx]
              exact ⟨x8, hF.tr f8⟩
            · skip
              exact absurd (by assumption) (x8).2.1
          · skip
            omega
        | inr a =>
          rw [hx] at x8
          obtain ⟨xr, x8⟩ : _ = 1 ∧ OKm M8 a.1 a.2 := x8
          rw [xr]
          have q := pf1_ok hO hR hx
          have hle2 := tO_le q.1
          refine Ev.if_eq (tgt := 114) (q := 111) dX12_readPerson_108 (by decide) rfl (fun h61 => ?_) (fun h61 => ?_)
          · skip
            omega
          · skip
            refine Ev.goto (q := 96) dX12_readPerson_111 (by decide) ?_
            rw [pfR_1, hx]
            exact ih a.1 a.2 M8 x8 q.1 (hX.q f8) q.2.2.1 (by rw [q.2.2.2.1]; exact h2) (by omega) (hF.tr f8)
set_option maxRecDepth 4000 in
theorem p_X12_readPerson {Γ : Gm} {d : Nat} {m : Mem} (tx : Nat → Int) (N : Nat) (t : Tok) (f : Row) (hN : N ≤ 900) (hX : TX m tx N) (hO : tOK tx N t) (h : OKm m t f) (hR : RI f) : Ci Γ (d + 8) MX12_readPerson [rv 211] m (fun r m' => PM m' (peS tx N t f) ∧ Fr sPq m m') := by
  refine Ci.of moX12_readPerson rfl rfl (fun hA hM => ?_)
  show Em Γ (d + 8) MX12_readPerson _ 0 [rv 211, uv] [] m
  obtain ⟨hR1, hR2, hR3⟩ := hR
  have hR : RI f := ⟨hR1, hR2, hR3⟩
  obtain ⟨p, hl9⟩ : ∃ p : Nat, f 3 = p := ⟨(f 3).toNat, by omega⟩
  refine Ev.aload_n (q := 1) dX12_readPerson_0 rfl rfl ?_
  refine gR (q := 4) dX12_readPerson_1 gfX12_24 k211 r211_4 rfl rfl ?_
  refine Ev.iconst (q := 5) dX12_readPerson_4 ki_3 rfl ?_
  refine aI (q := 6) (k := 3) dX12_readPerson_5 k215 (by rfl) (by decide) rfl ?_
  rw [h.2.2, hl9]
  refine istore_n_1 (q := 7) dX12_readPerson_6 rfl rfl rfl ?_
  refine Ev.iload_n (q := 8) dX12_readPerson_7 rfl rfl ?_
  refine Ev.bipush (q := 10) dX12_readPerson_8 kb_8 rfl ?_
  refine Ev.icmp_ne (tgt := 18) (q := 13) dX12_readPerson_10 (by decide) rfl (fun h1 => ?_) (fun h1 => ?_)
  · skip
    have hfull : ¬ f 3 = 8 := by omega
    refine Ev.aload_n (q := 19) dX12_readPerson_18 rfl rfl ?_
    refine gI (q := 22) dX12_readPerson_19 gfX12_102 k211 rfl rfl ?_
    rw [h.1]
    refine Ev.if_eq (tgt := 26) (q := 25) dX12_readPerson_22 (by decide) rfl (fun h61 => ?_) (fun h61 => ?_)
    · skip
      refine Ev.aload_n (q := 27) dX12_readPerson_26 rfl rfl ?_
      refine cV0v (q := 30) (d' := d + 7) dX12_readPerson_27 mlX12_111 moX12_next mvX12_next k211 rfl rfl rfl (Nat.le_refl _) rfl rfl rfl (p_X12_next N t.2.2.1 hN hO.2.1 hX.1 h.2.1.2.2.1) (fun r62 m62 e62 => ?_)
      obtain ⟨M9, rfl⟩ : ∃ M9, M9 = m62 := ⟨_, rfl⟩
      obtain ⟨y1, y2⟩ := e62
      rw [hX.2] at y1
      have x9 := OKm_nx h (show TkM M9 (nxS tx N t) from y1) y2
      have f9 := y2.pq
      have hX9 := hX.q f9
      have hO9 := (tOK_nx hO).1
      refine Ev.aload_n (q := 31) dX12_readPerson_30 rfl rfl ?_
      refine Ev.bipush (q := 33) dX12_readPerson_31 kb_8 rfl ?_
      refine cV1i (q := 36) (d' := d + 7) dX12_readPerson_33 mlX12_137 moX12_eats mvX12_eats k211 rfl rfl rfl (Nat.le_refl _) rfl rfl rfl (p_X12_eats tx N (nxS tx N t) f 8 hN hX9 hO9 x9) (fun r63 m63 e63 => ?_)
      obtain ⟨M7, rfl⟩ : ∃ M7, M7 = m63 := ⟨_, rfl⟩
      obtain ⟨ey, en⟩ := e63
      refine Ev.if_ne (tgt := 44) (q := 39) dX12_readPerson_36 (by decide) rfl (fun h64 => ?_) (fun h64 => ?_)
      · skip
        have hk : (nxS tx N t).1 = 8 := Classical.byContradiction fun z => by have := (en z).1; omega
        obtain ⟨-, x7, f7⟩ := ey hk
        have hX7 := hX9.q f7
        have hea : eaS tx N 8 (nxS tx N t) = .inr (nxS tx N (nxS tx N t)) := by unfold eaS; rw [if_pos hk]
        have hO7 := (tOK_nx hO9).1
        refine Ev.aload_n (q := 45) dX12_readPerson_44 rfl rfl ?_
        refine gR (q := 48) dX12_readPerson_45 gfX12_24 k211 r211_4 rfl rfl ?_
        refine Ev.bipush (q := 50) dX12_readPerson_48 kb_28 rfl ?_
        refine Ev.iload_n (q := 51) dX12_readPerson_50 rfl rfl ?_
        refine Ev.iadd (q := 52) dX12_readPerson_51 rfl ?_
        refine Ev.aload_n (q := 53) dX12_readPerson_52 rfl rfl ?_
        refine Ev.iconst (q := 54) dX12_readPerson_53 ki_0 rfl ?_
        refine Ev.aload_n (q := 55) dX12_readPerson_54 rfl rfl ?_
        refine gR (q := 58) dX12_readPerson_55 gfX12_24 k211 r211_4 rfl rfl ?_
        refine Ev.iconst (q := 59) dX12_readPerson_58 ki_1 rfl ?_
        refine aI (q := 60) (k := 1) dX12_readPerson_59 k215 (by rfl) (by decide) rfl ?_
        rw [x7.2.2]
        refine Ev.iconst (q := 61) dX12_readPerson_60 ki_1 rfl ?_
        refine Ev.isub (q := 62) dX12_readPerson_61 rfl ?_
        rw [w32_of (by omega) (by omega)]
        refine cV2i (q := 65) (d' := d + 7) dX12_readPerson_62 mlX12_146 moX12_takes mvX12_takes k211 rfl rfl rfl (Nat.le_refl _) rfl rfl rfl (p_X12_takes tx N (nxS tx N (nxS tx N t)) f 0 (f 1 - 1) hN hX7 hO7 x7) (fun r71 m71 e71 => ?_)
        obtain ⟨M8, rfl⟩ : ∃ M8, M8 = m71 := ⟨_, rfl⟩
        obtain ⟨x8, f8⟩ := e71
        cases hx : nuS tx N 0 (f 1 - 1) (nxS tx N (nxS tx N t)) with
        | inl e =>
          rw [hx] at x8
          have x8 : BDm M8 e := x8
          refine sI (q := 66) (k := 28 + p) dX12_readPerson_65 k215 (by first | rfl | omega | (simp (disch := omega) only [w32_of]; omega)) (by omega) rfl ?_
          refine Ev.aload_n (q := 67) dX12_readPerson_66 rfl rfl ?_
          refine gR (q := 70) dX12_readPerson_67 gfX12_24 k211 r211_4 rfl rfl ?_
          refine Ev.bipush (q := 72) dX12_readPerson_70 kb_52 rfl ?_
          refine Ev.iload_n (q := 73) dX12_readPerson_72 rfl rfl ?_
          refine Ev.iadd (q := 74) dX12_readPerson_73 rfl ?_
          refine Ev.iconst (q := 75) dX12_readPerson_74 ki_1 rfl ?_
          refine sI (q := 76) (k := 52 + p) dX12_readPerson_75 k215 (by first | rfl | omega | (simp (disch := omega) only [w32_of]; omega)) (by omega) rfl ?_
          refine Ev.aload_n (q := 77) dX12_readPerson_76 rfl rfl ?_
          refine gR (q := 80) dX12_readPerson_77 gfX12_24 k211 r211_4 rfl rfl ?_
          refine Ev.bipush (q := 82) dX12_readPerson_80 kb_72 rfl ?_
          refine Ev.iload_n (q := 83) dX12_readPerson_82 rfl rfl ?_
          refine Ev.iadd (q := 84) dX12_readPerson_83 rfl ?_
          refine Ev.iconst (q := 85) dX12_readPerson_84 ki_0 rfl ?_
          refine sI (q := 86) (k := 72 + p) dX12_readPerson_85 k215 (by first | rfl | omega | (simp (disch := omega) only [w32_of]; omega)) (by omega) rfl ?_
          refine Ev.aload_n (q := 87) dX12_readPerson_86 rfl rfl ?_
          refine gR (q := 90) dX12_readPerson_87 gfX12_24 k211 r211_4 rfl rfl ?_
          refine Ev.bipush (q := 92) dX12_readPerson_90 kb_88 rfl ?_
          refine Ev.iload_n (q := 93) dX12_readPerson_92 rfl rfl ?_
          refine Ev.iadd (q := 94) dX12_readPerson_93 rfl ?_
          refine Ev.iconst (q := 95) dX12_readPerson_94 ki_m1 rfl ?_
          refine sI (q := 96) (k := 88 + p) dX12_readPerson_95 k215 (by first | rfl | omega | (simp (disch := omega) only [w32_of]; omega)) (by omega) rfl ?_
          refine Ev.aload_n (q := 97) dX12_readPerson_96 rfl rfl ?_
          refine gI (q := 100) dX12_readPerson_97 gfX12_102 k211 rfl rfl ?_
          rw [(((((x8).up _ _).up _ _).up _ _).up _ _).1]
          refine Ev.if_ne (tgt := 114) (q := 103) dX12_readPerson_100 (by decide) rfl (fun h91 => ?_) (fun h91 => ?_)
          · skip
            refine Ev.aload_n (q := 115) dX12_readPerson_114 rfl rfl ?_
            refine gI (q := 118) dX12_readPerson_115 gfX12_102 k211 rfl rfl ?_
            rw [(((((x8).up _ _).up _ _).up _ _).up _ _).1]
            refine Ev.if_ne (tgt := 131) (q := 121) dX12_readPerson_118 (by decide) rfl (fun h92 => ?_) (fun h92 => ?_)
            · skip
              refine rV dX12_readPerson_131 rfl ?_
              unfold peS
              rw [if_neg hfull, bE_r hea, bE_l hx]
              exact ⟨((((x8).up _ _).up _ _).up _ _).up _ _, ((((f9.tr (f7.tr f8)).up rfl).up rfl).up rfl).up rfl⟩
            · skip
              exact absurd (by assumption) x8.2.1
          · skip
            exact absurd (by assumption) x8.2.1
        | inr a =>
          rw [hx] at x8
          obtain ⟨xr, x8⟩ : _ = a.1 ∧ OKm M8 a.2 f := x8
          obtain ⟨n1, n2, n3, n4, n5⟩ := nu_inv hO7 hx
          have hle2 := tO_le n4
          rw [xr]
          refine sI (q := 66) (k := 28 + p) dX12_readPerson_65 k215 (by first | rfl | omega | (simp (disch := omega) only [w32_of]; omega)) (by omega) rfl ?_
          refine Ev.aload_n (q := 67) dX12_readPerson_66 rfl rfl ?_
          refine gR (q := 70) dX12_readPerson_67 gfX12_24 k211 r211_4 rfl rfl ?_
          refine Ev.bipush (q := 72) dX12_readPerson_70 kb_52 rfl ?_
          refine Ev.iload_n (q := 73) dX12_readPerson_72 rfl rfl ?_
          refine Ev.iadd (q := 74) dX12_readPerson_73 rfl ?_
          refine Ev.iconst (q := 75) dX12_readPerson_74 ki_1 rfl ?_
          refine sI (q := 76) (k := 52 + p) dX12_readPerson_75 k215 (by first | rfl | omega | (simp (disch := omega) only [w32_of]; omega)) (by omega) rfl ?_
          refine Ev.aload_n (q := 77) dX12_readPerson_76 rfl rfl ?_
          refine gR (q := 80) dX12_readPerson_77 gfX12_24 k211 r211_4 rfl rfl ?_
          refine Ev.bipush (q := 82) dX12_readPerson_80 kb_72 rfl ?_
          refine Ev.iload_n (q := 83) dX12_readPerson_82 rfl rfl ?_
          refine Ev.iadd (q := 84) dX12_readPerson_83 rfl ?_
          refine Ev.iconst (q := 85) dX12_readPerson_84 ki_0 rfl ?_
          refine sI (q := 86) (k := 72 + p) dX12_readPerson_85 k215 (by first | rfl | omega | (simp (disch := omega) only [w32_of]; omega)) (by omega) rfl ?_
          refine Ev.aload_n (q := 87) dX12_readPerson_86 rfl rfl ?_
          refine gR (q := 90) dX12_readPerson_87 gfX12_24 k211 r211_4 rfl rfl ?_
          refine Ev.bipush (q := 92) dX12_readPerson_90 kb_88 rfl ?_
          refine Ev.iload_n (q := 93) dX12_readPerson_92 rfl rfl ?_
          refine Ev.iadd (q := 94) dX12_readPerson_93 rfl ?_
          refine Ev.iconst (q := 95) dX12_readPerson_94 ki_m1 rfl ?_
          refine sI (q := 96) (k := 88 + p) dX12_readPerson_95 k215 (by first | rfl | omega | (simp (disch := omega) only [w32_of]; omega)) (by omega) rfl ?_
          refine (l_X12_readPerson (m0 := m) tx N p hN (by omega) (N + 1) a.2 (upg (upg (upg (upg f (28 + p) a.1) (52 + p) 1) (72 + p) 0) (88 + p) (-1)) _ (((((x8).up _ _).up _ _).up _ _).up _ _) n4 ((hX7.q f8).q (((((Fr.rf _ _).up rfl).up rfl).up rfl).up rfl)) ((((hR.up (by omega) _).up (by omega) _).up (by omega) _).up (by omega) _) (by rw [upg_ne _ _ (by omega), upg_ne _ _ (by omega), upg_ne _ _ (by omega), upg_ne _ _ (by omega)]; exact hl9) (by omega) (((((f9.tr (f7.tr f8)).up rfl).up rfl).up rfl).up rfl)).imp ?_
          intro r9 m9 h9
          unfold peS
          rw [if_neg hfull, bE_r hea, bE_r hx, hl9, Int.toNat_natCast]
          exact h9
      · skip
        have hk : ¬ (nxS tx N t).1 = 8 := fun z => by have := (ey z).1; omega
        obtain ⟨-, rfl⟩ := en hk
        have hea : eaS tx N 8 (nxS tx N t) = flS (nxS tx N t) 2 := by unfold eaS; rw [if_neg hk]
        refine Ev.aload_n (q := 40) dX12_readPerson_39 rfl rfl ?_
        refine Ev.iconst (q := 41) dX12_readPerson_40 ki_2 rfl ?_
        refine cV1v (q := 44) (d' := d + 7) dX12_readPerson_41 mlX12_114 moX12_fails mvX12_fails k211 rfl rfl rfl (Nat.le_refl _) rfl rfl rfl (p_X12_fails (nxS tx N t) f 2 (by decide) x9) (fun r65 m65 e65 => ?_)
        obtain ⟨M6, rfl⟩ : ∃ M6, M6 = m65 := ⟨_, rfl⟩
        obtain ⟨b1, b2⟩ := e65
        refine Ev.aload_n (q := 45) dX12_readPerson_44 rfl rfl ?_
        refine gR (q := 48) dX12_readPerson_45 gfX12_24 k211 r211_4 rfl rfl ?_
        refine Ev.bipush (q := 50) dX12_readPerson_48 kb_28 rfl ?_
        refine Ev.iload_n (q := 51) dX12_readPerson_50 rfl rfl ?_
        refine Ev.iadd (q := 52) dX12_readPerson_51 rfl ?_
        refine Ev.aload_n (q := 53) dX12_readPerson_52 rfl rfl ?_
        refine Ev.iconst (q := 54) dX12_readPerson_53 ki_0 rfl ?_
        refine Ev.aload_n (q := 55) dX12_readPerson_54 rfl rfl ?_
        refine gR (q := 58) dX12_readPerson_55 gfX12_24 k211 r211_4 rfl rfl ?_
        refine Ev.iconst (q := 59) dX12_readPerson_58 ki_1 rfl ?_
        refine aI (q := 60) (k := 1) dX12_readPerson_59 k215 (by rfl) (by decide) rfl ?_
        refine Ev.iconst (q := 61) dX12_readPerson_60 ki_1 rfl ?_
        refine Ev.isub (q := 62) dX12_readPerson_61 rfl ?_
        refine cV2i (q := 65) (d' := d + 7) dX12_readPerson_62 mlX12_146 moX12_takes mvX12_takes k211 rfl rfl rfl (Nat.le_refl _) rfl rfl rfl (p_X12_takes_bd _ _ _ b1) (fun r91 m91 e91 => ?_)
        obtain rfl := (show _ = _ from e91).symm
        refine sI (q := 66) (k := 28 + p) dX12_readPerson_65 k215 (by first | rfl | omega | (simp (disch := omega) only [w32_of]; omega)) (by omega) rfl ?_
        refine Ev.aload_n (q := 67) dX12_readPerson_66 rfl rfl ?_
        refine gR (q := 70) dX12_readPerson_67 gfX12_24 k211 r211_4 rfl rfl ?_
        refine Ev.bipush (q := 72) dX12_readPerson_70 kb_52 rfl ?_
        refine Ev.iload_n (q := 73) dX12_readPerson_72 rfl rfl ?_
        refine Ev.iadd (q := 74) dX12_readPerson_73 rfl ?_
        refine Ev.iconst (q := 75) dX12_readPerson_74 ki_1 rfl ?_
        refine sI (q := 76) (k := 52 + p) dX12_readPerson_75 k215 (by first | rfl | omega | (simp (disch := omega) only [w32_of]; omega)) (by omega) rfl ?_
        refine Ev.aload_n (q := 77) dX12_readPerson_76 rfl rfl ?_
        refine gR (q := 80) dX12_readPerson_77 gfX12_24 k211 r211_4 rfl rfl ?_
        refine Ev.bipush (q := 82) dX12_readPerson_80 kb_72 rfl ?_
        refine Ev.iload_n (q := 83) dX12_readPerson_82 rfl rfl ?_
        refine Ev.iadd (q := 84) dX12_readPerson_83 rfl ?_
        refine Ev.iconst (q := 85) dX12_readPerson_84 ki_0 rfl ?_
        refine sI (q := 86) (k := 72 + p) dX12_readPerson_85 k215 (by first | rfl | omega | (simp (disch := omega) only [w32_of]; omega)) (by omega) rfl ?_
        refine Ev.aload_n (q := 87) dX12_readPerson_86 rfl rfl ?_
        refine gR (q := 90) dX12_readPerson_87 gfX12_24 k211 r211_4 rfl rfl ?_
        refine Ev.bipush (q := 92) dX12_readPerson_90 kb_88 rfl ?_
        refine Ev.iload_n (q := 93) dX12_readPerson_92 rfl rfl ?_
        refine Ev.iadd (q := 94) dX12_readPerson_93 rfl ?_
        refine Ev.iconst (q := 95) dX12_readPerson_94 ki_m1 rfl ?_
        refine sI (q := 96) (k := 88 + p) dX12_readPerson_95 k215 (by first | rfl | omega | (simp (disch := omega) only [w32_of]; omega)) (by omega) rfl ?_
        refine Ev.aload_n (q := 97) dX12_readPerson_96 rfl rfl ?_
        refine gI (q := 100) dX12_readPerson_97 gfX12_102 k211 rfl rfl ?_
        rw [(((((b1).up _ _).up _ _).up _ _).up _ _).1]
        refine Ev.if_ne (tgt := 114) (q := 103) dX12_readPerson_100 (by decide) rfl (fun h92 => ?_) (fun h92 => ?_)
        · skip
          refine Ev.aload_n (q := 115) dX12_readPerson_114 rfl rfl ?_
          refine gI (q := 118) dX12_readPerson_115 gfX12_102 k211 rfl rfl ?_
          rw [(((((b1).up _ _).up _ _).up _ _).up _ _).1]
          refine Ev.if_ne (tgt := 131) (q := 121) dX12_readPerson_118 (by decide) rfl (fun h93 => ?_) (fun h93 => ?_)
          · skip
            refine rV dX12_readPerson_131 rfl ?_
            unfold peS
            rw [if_neg hfull, bE_l (hea.trans rfl)]
            exact ⟨((((b1).up _ _).up _ _).up _ _).up _ _, ((((f9.tr b2).up rfl).up rfl).up rfl).up rfl⟩
          · skip
            exact absurd (by assumption) b1.2.1
        · skip
          exact absurd (by assumption) b1.2.1
    · skip
      omega
  · skip
    refine Ev.aload_n (q := 14) dX12_readPerson_13 rfl rfl ?_
    refine Ev.iconst (q := 15) dX12_readPerson_14 ki_4 rfl ?_
    refine cV1v (q := 18) (d' := d + 7) dX12_readPerson_15 mlX12_114 moX12_fails mvX12_fails k211 rfl rfl rfl (Nat.le_refl _) rfl rfl rfl (p_X12_fails t f 4 (by decide) h) (fun r2 m2 e2 => ?_)
    obtain ⟨M9, rfl⟩ : ∃ M9, M9 = m2 := ⟨_, rfl⟩
    obtain ⟨b1, b2⟩ := e2
    have hfull : f 3 = 8 := by omega
    refine Ev.aload_n (q := 19) dX12_readPerson_18 rfl rfl ?_
    refine gI (q := 22) dX12_readPerson_19 gfX12_102 k211 rfl rfl ?_
    rw [b1.1]
    refine Ev.if_eq (tgt := 26) (q := 25) dX12_readPerson_22 (by decide) rfl (fun h61 => ?_) (fun h61 => ?_)
    · skip
      exact absurd (by assumption) b1.2.1
    · skip
      refine rV dX12_readPerson_25 rfl ?_
      unfold peS
      rw [if_pos hfull]
      exact ⟨b1, b2⟩
