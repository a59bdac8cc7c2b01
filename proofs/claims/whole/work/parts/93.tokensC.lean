/-! ===== the class: tokens ===== -/
def BT (m : Mem) (tx : Nat → Int) (N : Nat) : Prop := ∀ i, i < N → (0 ≤ tx i ∧ tx i ≤ 255) ∧ ((m 1 i = tx i ∧ tx i < 128) ∨ (m 1 i = tx i - 256 ∧ 128 ≤ tx i))
def TC (m : Mem) (tx : Nat → Int) (N : Nat) : Prop := m 22 0 = ((1 : Nat) : Int) ∧ m 22 1 = (N : Int) ∧ BT m tx N
def kcl (k : Int) : Int := if k = 24 then 0 else if k ≤ 22 then 1 else if k = 23 then 2 else if k = 25 then 4 else 3
def TkC (m : Mem) (t : Tok) : Prop := m 22 3 = kcl t.1 ∧ m 22 4 = (t.2.1 : Int) ∧ m 22 2 = (t.2.2.1 : Int) ∧ (t.1 = 23 → m 22 5 = t.2.2.2)
def sTn (a k : Nat) : Bool := a == 22 && decide (2 ≤ k)
theorem TC.keep {m m' : Mem} {tx : Nat → Int} {N : Nat} (h : TC m tx N) (hf : Fr sTn m m') : TC m' tx N := ⟨by rw [hf 22 0 rfl]; exact h.1, by rw [hf 22 1 rfl]; exact h.2.1, fun i hi => by rw [hf 1 i rfl]; exact h.2.2 i hi⟩
set_option maxRecDepth 4000 in
theorem lc_nxA {Γ : Gm} {d : Nat} {m0 : Mem} {Po : Int → Mem → Prop} (tx : Nat → Int) (N : Nat) (hN : N ≤ 900) (hC : TC m0 tx N) (p : Nat)
    (kont : ∀ (M : Mem), Fr sTn m0 M → M 22 2 = (rE isSp tx N p : Int) → Em Γ (d + 0) MX8_next Po 52 [rv 22, uv, uv, uv] [] M) :
    ∀ (n : Nat) (q : Nat) (M : Mem), q + n = N → Fr sTn m0 M → M 22 2 = (q : Int) → rE isSp tx N p = rE isSp tx N q → Em Γ (d + 0) MX8_next Po 0 [rv 22, uv, uv, uv] [] M := by
  intro n
  induction n with
  | zero =>
    intro q M hq hF ha2 hr
    obtain ⟨hT, hL, hB⟩ := hC.keep hF
    refine Ev.aload_n (q := 1) dX8_next_0 rfl rfl ?_
    refine gI (q := 4) dX8_next_1 gfX8_17 k22 rfl rfl ?_
    rw [ha2]
    refine Ev.aload_n (q := 5) dX8_next_4 rfl rfl ?_
    refine gI (q := 8) dX8_next_5 gfX8_13 k22 rfl rfl ?_
    rw [hL]
    refine Ev.icmp_ge (tgt := 52) (q := 11) dX8_next_8 (by decide) rfl (fun h1 => ?_) (fun h1 => ?_)
    · skip
      exact kont M hF (by rw [ha2, hr, rE_out (fun z => by omega)])
    · skip
      omega
  | succ n ih =>
    intro q M hq hF ha2 hr
    obtain ⟨hT, hL, hB⟩ := hC.keep hF
    refine Ev.aload_n (q := 1) dX8_next_0 rfl rfl ?_
    refine gI (q := 4) dX8_next_1 gfX8_17 k22 rfl rfl ?_
    rw [ha2]
    refine Ev.aload_n (q := 5) dX8_next_4 rfl rfl ?_
    refine gI (q := 8) dX8_next_5 gfX8_13 k22 rfl rfl ?_
    rw [hL]
    refine Ev.icmp_ge (tgt := 52) (q := 11) dX8_next_8 (by decide) rfl (fun h1 => ?_) (fun h1 => ?_)
    · skip
      omega
    · skip
      have hb := hB q (by omega)
      refine Ev.aload_n (q := 12) dX8_next_11 rfl rfl ?_
      refine gDy (q := 15) (r := 1) dX8_next_12 gfX8_7 k22 hT rfl rfl ?_
      refine Ev.aload_n (q := 16) dX8_next_15 rfl rfl ?_
      refine gI (q := 19) dX8_next_16 gfX8_17 k22 rfl rfl ?_
      rw [ha2]
      refine aB (q := 20) (k := q) dX8_next_19 k1 (by first | rfl | omega | (simp (disch := omega) only [w32_of]; omega)) (by omega) rfl ?_
      refine Ev.bipush (q := 22) dX8_next_20 kb_10 rfl ?_
      refine Ev.icmp_eq (tgt := 39) (q := 25) dX8_next_22 (by decide) rfl (fun h2 => ?_) (fun h2 => ?_)
      · skip
        refine Ev.aload_n (q := 40) dX8_next_39 rfl rfl ?_
        refine Ev.dup (q := 41) dX8_next_40 (fun z => by cases z) rfl ?_
        refine gI (q := 44) dX8_next_41 gfX8_17 k22 rfl rfl ?_
        rw [ha2]
        refine Ev.iconst (q := 45) dX8_next_44 ki_1 rfl ?_
        refine Ev.iadd (q := 46) dX8_next_45 rfl ?_
        refine pI (q := 49) dX8_next_46 gfX8_17 k22 rfl rfl ?_
        refine Ev.goto (q := 0) dX8_next_49 (by decide) ?_
        rw [w32_of (by omega) (by omega)]
        exact ih (q + 1) _ (by omega) (hF.up rfl) (by rw [up_eq]; omega) (by rw [hr, rE_in (by omega) (decide_eq_true (show tx q = 10 ∨ tx q = 32 by omega))])
      · skip
        refine Ev.aload_n (q := 26) dX8_next_25 rfl rfl ?_
        refine gDy (q := 29) (r := 1) dX8_next_26 gfX8_7 k22 hT rfl rfl ?_
        refine Ev.aload_n (q := 30) dX8_next_29 rfl rfl ?_
        refine gI (q := 33) dX8_next_30 gfX8_17 k22 rfl rfl ?_
        rw [ha2]
        refine aB (q := 34) (k := q) dX8_next_33 k1 (by first | rfl | omega | (simp (disch := omega) only [w32_of]; omega)) (by omega) rfl ?_
        refine Ev.bipush (q := 36) dX8_next_34 kb_32 rfl ?_
        refine Ev.icmp_ne (tgt := 52) (q := 39) dX8_next_36 (by decide) rfl (fun h3 => ?_) (fun h3 => ?_)
        · skip
          exact kont M hF (by rw [ha2, hr, rE_out (fun z => by have := of_decide_eq_true z.2; omega)])
        · skip
          refine Ev.aload_n (q := 40) dX8_next_39 rfl rfl ?_
          refine Ev.dup (q := 41) dX8_next_40 (fun z => by cases z) rfl ?_
          refine gI (q := 44) dX8_next_41 gfX8_17 k22 rfl rfl ?_
          rw [ha2]
          refine Ev.iconst (q := 45) dX8_next_44 ki_1 rfl ?_
          refine Ev.iadd (q := 46) dX8_next_45 rfl ?_
          refine pI (q := 49) dX8_next_46 gfX8_17 k22 rfl rfl ?_
          refine Ev.goto (q := 0) dX8_next_49 (by decide) ?_
          rw [w32_of (by omega) (by omega)]
          exact ih (q + 1) _ (by omega) (hF.up rfl) (by rw [up_eq]; omega) (by rw [hr, rE_in (by omega) (decide_eq_true (show tx q = 10 ∨ tx q = 32 by omega))])
set_option maxRecDepth 4000 in
theorem lc_nxL {Γ : Gm} {d : Nat} {m0 : Mem} {Po : Int → Mem → Prop} (tx : Nat → Int) (N : Nat) (hN : N ≤ 900) (hC : TC m0 tx N) (a : Nat) (b : Int)
    (kont : ∀ (M : Mem), Fr sTn m0 M → M 22 2 = (rE isSm tx N a : Int) → M 22 4 = (a : Int) → Em Γ (d + 0) MX8_next Po 163 [rv 22, iv b, uv, uv] [] M) :
    ∀ (n : Nat) (q : Nat) (M : Mem), q + n = N → Fr sTn m0 M → M 22 2 = (q : Int) → M 22 4 = (a : Int) → rE isSm tx N a = rE isSm tx N q → Em Γ (d + 0) MX8_next Po 111 [rv 22, iv b, uv, uv] [] M := by
  intro n
  induction n with
  | zero =>
    intro q M hq hF ha2 ha4 hr
    obtain ⟨hT, hL, hB⟩ := hC.keep hF
    refine Ev.aload_n (q := 112) dX8_next_111 rfl rfl ?_
    refine gI (q := 115) dX8_next_112 gfX8_17 k22 rfl rfl ?_
    rw [ha2]
    refine Ev.aload_n (q := 116) dX8_next_115 rfl rfl ?_
    refine gI (q := 119) dX8_next_116 gfX8_13 k22 rfl rfl ?_
    rw [hL]
    refine Ev.icmp_ge (tgt := 163) (q := 122) dX8_next_119 (by decide) rfl (fun h1 => ?_) (fun h1 => ?_)
    · skip
      exact kont M hF (by rw [ha2, hr, rE_out (fun z => by omega)]) ha4
    · skip
      omega
  | succ n ih =>
    intro q M hq hF ha2 ha4 hr
    obtain ⟨hT, hL, hB⟩ := hC.keep hF
    refine Ev.aload_n (q := 112) dX8_next_111 rfl rfl ?_
    refine gI (q := 115) dX8_next_112 gfX8_17 k22 rfl rfl ?_
    rw [ha2]
    refine Ev.aload_n (q := 116) dX8_next_115 rfl rfl ?_
    refine gI (q := 119) dX8_next_116 gfX8_13 k22 rfl rfl ?_
    rw [hL]
    refine Ev.icmp_ge (tgt := 163) (q := 122) dX8_next_119 (by decide) rfl (fun h1 => ?_) (fun h1 => ?_)
    · skip
      omega
    · skip
      have hb := hB q (by omega)
      refine Ev.aload_n (q := 123) dX8_next_122 rfl rfl ?_
      refine gDy (q := 126) (r := 1) dX8_next_123 gfX8_7 k22 hT rfl rfl ?_
      refine Ev.aload_n (q := 127) dX8_next_126 rfl rfl ?_
      refine gI (q := 130) dX8_next_127 gfX8_17 k22 rfl rfl ?_
      rw [ha2]
      refine aB (q := 131) (k := q) dX8_next_130 k1 (by first | rfl | omega | (simp (disch := omega) only [w32_of]; omega)) (by omega) rfl ?_
      refine Ev.bipush (q := 133) dX8_next_131 kb_97 rfl ?_
      refine Ev.icmp_lt (tgt := 163) (q := 136) dX8_next_133 (by decide) rfl (fun h2 => ?_) (fun h2 => ?_)
      · skip
        exact kont M hF (by rw [ha2, hr, rE_out (fun z => by have := of_decide_eq_true z.2; omega)]) ha4
      · skip
        refine Ev.aload_n (q := 137) dX8_next_136 rfl rfl ?_
        refine gDy (q := 140) (r := 1) dX8_next_137 gfX8_7 k22 hT rfl rfl ?_
        refine Ev.aload_n (q := 141) dX8_next_140 rfl rfl ?_
        refine gI (q := 144) dX8_next_141 gfX8_17 k22 rfl rfl ?_
        rw [ha2]
        refine aB (q := 145) (k := q) dX8_next_144 k1 (by first | rfl | omega | (simp (disch := omega) only [w32_of]; omega)) (by omega) rfl ?_
        refine Ev.bipush (q := 147) dX8_next_145 kb_122 rfl ?_
        refine Ev.icmp_gt (tgt := 163) (q := 150) dX8_next_147 (by decide) rfl (fun h3 => ?_) (fun h3 => ?_)
        · skip
          exact kont M hF (by rw [ha2, hr, rE_out (fun z => by have := of_decide_eq_true z.2; omega)]) ha4
        · skip
          refine Ev.aload_n (q := 151) dX8_next_150 rfl rfl ?_
          refine Ev.dup (q := 152) dX8_next_151 (fun z => by cases z) rfl ?_
          refine gI (q := 155) dX8_next_152 gfX8_17 k22 rfl rfl ?_
          rw [ha2]
          refine Ev.iconst (q := 156) dX8_next_155 ki_1 rfl ?_
          refine Ev.iadd (q := 157) dX8_next_156 rfl ?_
          refine pI (q := 160) dX8_next_157 gfX8_17 k22 rfl rfl ?_
          refine Ev.goto (q := 111) dX8_next_160 (by decide) ?_
          rw [w32_of (by omega) (by omega)]
          exact ih (q + 1) _ (by omega) (hF.up rfl) (by rw [up_eq]; omega) (by rw [up_k _ _ (by decide)]; exact ha4) (by rw [hr, rE_in (by omega) (decide_eq_true (show 97 ≤ tx q ∧ tx q ≤ 122 by omega))])
set_option maxRecDepth 4000 in
theorem lc_nxD {Γ : Gm} {d : Nat} {m0 : Mem} {Po : Int → Mem → Prop} (tx : Nat → Int) (N : Nat) (hN : N ≤ 900) (hC : TC m0 tx N) (a : Nat) (b : Int)
    (kont : ∀ (M : Mem), Fr sTn m0 M → M 22 2 = (rE isDg tx N a : Int) → M 22 4 = (a : Int) → M 22 5 = dig tx a (min 3 (rE isDg tx N a - a)) → Em Γ (d + 0) MX8_next Po 280 [rv 22, iv b, uv, uv] [] M) :
    ∀ (n : Nat) (q : Nat) (M : Mem), q + n = N → a ≤ q → Fr sTn m0 M → M 22 2 = (q : Int) → M 22 4 = (a : Int) → M 22 5 = dig tx a (min 3 (q - a)) → (∀ i, a ≤ i → i < q → isDg (tx i) = true) → rE isDg tx N a = rE isDg tx N q → Em Γ (d + 0) MX8_next Po 191 [rv 22, iv b, uv, uv] [] M := by
  intro n
  induction n with
  | zero =>
    intro q M hq haq hF ha2 ha4 ha5 hall hr
    obtain ⟨hT, hL, hB⟩ := hC.keep hF
    refine Ev.aload_n (q := 192) dX8_next_191 rfl rfl ?_
    refine gI (q := 195) dX8_next_192 gfX8_17 k22 rfl rfl ?_
    rw [ha2]
    refine Ev.aload_n (q := 196) dX8_next_195 rfl rfl ?_
    refine gI (q := 199) dX8_next_196 gfX8_13 k22 rfl rfl ?_
    rw [hL]
    refine Ev.icmp_ge (tgt := 280) (q := 202) dX8_next_199 (by decide) rfl (fun h1 => ?_) (fun h1 => ?_)
    · skip
      have he : rE isDg tx N a = q := by rw [hr, rE_out (fun z => by omega)]
      exact kont M hF (by rw [ha2, he]) ha4 (by rw [ha5, he])
    · skip
      omega
  | succ n ih =>
    intro q M hq haq hF ha2 ha4 ha5 hall hr
    obtain ⟨hT, hL, hB⟩ := hC.keep hF
    refine Ev.aload_n (q := 192) dX8_next_191 rfl rfl ?_
    refine gI (q := 195) dX8_next_192 gfX8_17 k22 rfl rfl ?_
    rw [ha2]
    refine Ev.aload_n (q := 196) dX8_next_195 rfl rfl ?_
    refine gI (q := 199) dX8_next_196 gfX8_13 k22 rfl rfl ?_
    rw [hL]
    refine Ev.icmp_ge (tgt := 280) (q := 202) dX8_next_199 (by decide) rfl (fun h1 => ?_) (fun h1 => ?_)
    · skip
      omega
    · skip
      have hb := hB q (by omega)
      refine Ev.aload_n (q := 203) dX8_next_202 rfl rfl ?_
      refine gDy (q := 206) (r := 1) dX8_next_203 gfX8_7 k22 hT rfl rfl ?_
      refine Ev.aload_n (q := 207) dX8_next_206 rfl rfl ?_
      refine gI (q := 210) dX8_next_207 gfX8_17 k22 rfl rfl ?_
      rw [ha2]
      refine aB (q := 211) (k := q) dX8_next_210 k1 (by first | rfl | omega | (simp (disch := omega) only [w32_of]; omega)) (by omega) rfl ?_
      refine Ev.bipush (q := 213) dX8_next_211 kb_48 rfl ?_
      refine Ev.icmp_lt (tgt := 280) (q := 216) dX8_next_213 (by decide) rfl (fun h2 => ?_) (fun h2 => ?_)
      · skip
        have he : rE isDg tx N a = q := by rw [hr, rE_out (fun z => by have := of_decide_eq_true z.2; omega)]
        exact kont M hF (by rw [ha2, he]) ha4 (by rw [ha5, he])
      · skip
        refine Ev.aload_n (q := 217) dX8_next_216 rfl rfl ?_
        refine gDy (q := 220) (r := 1) dX8_next_217 gfX8_7 k22 hT rfl rfl ?_
        refine Ev.aload_n (q := 221) dX8_next_220 rfl rfl ?_
        refine gI (q := 224) dX8_next_221 gfX8_17 k22 rfl rfl ?_
        rw [ha2]
        refine aB (q := 225) (k := q) dX8_next_224 k1 (by first | rfl | omega | (simp (disch := omega) only [w32_of]; omega)) (by omega) rfl ?_
        refine Ev.bipush (q := 227) dX8_next_225 kb_57 rfl ?_
        refine Ev.icmp_gt (tgt := 280) (q := 230) dX8_next_227 (by decide) rfl (fun h3 => ?_) (fun h3 => ?_)
        · skip
          have he : rE isDg tx N a = q := by rw [hr, rE_out (fun z => by have := of_decide_eq_true z.2; omega)]
          exact kont M hF (by rw [ha2, he]) ha4 (by rw [ha5, he])
        · skip
          refine Ev.aload_n (q := 231) dX8_next_230 rfl rfl ?_
          refine gI (q := 234) dX8_next_231 gfX8_17 k22 rfl rfl ?_
          rw [ha2]
          refine Ev.aload_n (q := 235) dX8_next_234 rfl rfl ?_
          refine gI (q := 238) dX8_next_235 gfX8_23 k22 rfl rfl ?_
          refine Ev.isub (q := 239) dX8_next_238 rfl ?_
          rw [ha4, w32_of (by omega) (by omega)]
          refine Ev.iconst (q := 240) dX8_next_239 ki_3 rfl ?_
          refine Ev.icmp_ge (tgt := 267) (q := 243) dX8_next_240 (by decide) rfl (fun h4 => ?_) (fun h4 => ?_)
          · skip
            refine Ev.aload_n (q := 268) dX8_next_267 rfl rfl ?_
            refine Ev.dup (q := 269) dX8_next_268 (fun z => by cases z) rfl ?_
            refine gI (q := 272) dX8_next_269 gfX8_17 k22 rfl rfl ?_
            first | rw [ha2] | rw [up_k _ _ (by decide), ha2]
            refine Ev.iconst (q := 273) dX8_next_272 ki_1 rfl ?_
            refine Ev.iadd (q := 274) dX8_next_273 rfl ?_
            refine pI (q := 277) dX8_next_274 gfX8_17 k22 rfl rfl ?_
            refine Ev.goto (q := 191) dX8_next_277 (by decide) ?_
            rw [w32_of (z := (q : Int) + 1) (by omega) (by omega)]
            have hdq : isDg (tx q) = true := decide_eq_true (show 48 ≤ tx q ∧ tx q ≤ 57 by omega)
            exact ih (q + 1) _ (by omega) (by omega) (hF.up rfl) (by rw [up_eq]; omega) (by rw [up_k _ _ (by decide)]; exact ha4) (by rw [up_k _ _ (by decide), ha5, show min 3 (q + 1 - a) = min 3 (q - a) by omega]) (fun i h6 h7 => by by_cases e : i = q; (subst e; exact hdq); exact hall i h6 (by omega)) (by rw [hr, rE_in (by omega) hdq])
          · skip
            refine Ev.aload_n (q := 244) dX8_next_243 rfl rfl ?_
            refine Ev.aload_n (q := 245) dX8_next_244 rfl rfl ?_
            refine gI (q := 248) dX8_next_245 gfX8_26 k22 rfl rfl ?_
            rw [ha5]
            refine Ev.bipush (q := 250) dX8_next_248 kb_10 rfl ?_
            refine Ev.imul (q := 251) dX8_next_250 rfl ?_
            refine Ev.aload_n (q := 252) dX8_next_251 rfl rfl ?_
            refine gDy (q := 255) (r := 1) dX8_next_252 gfX8_7 k22 hT rfl rfl ?_
            refine Ev.aload_n (q := 256) dX8_next_255 rfl rfl ?_
            refine gI (q := 259) dX8_next_256 gfX8_17 k22 rfl rfl ?_
            rw [ha2]
            refine aB (q := 260) (k := q) dX8_next_259 k1 (by first | rfl | omega | (simp (disch := omega) only [w32_of]; omega)) (by omega) rfl ?_
            refine Ev.iadd (q := 261) dX8_next_260 rfl ?_
            refine Ev.bipush (q := 263) dX8_next_261 kb_48 rfl ?_
            refine Ev.isub (q := 264) dX8_next_263 rfl ?_
            refine pI (q := 267) dX8_next_264 gfX8_26 k22 rfl rfl ?_
            refine Ev.aload_n (q := 268) dX8_next_267 rfl rfl ?_
            refine Ev.dup (q := 269) dX8_next_268 (fun z => by cases z) rfl ?_
            refine gI (q := 272) dX8_next_269 gfX8_17 k22 rfl rfl ?_
            first | rw [ha2] | rw [up_k _ _ (by decide), ha2]
            refine Ev.iconst (q := 273) dX8_next_272 ki_1 rfl ?_
            refine Ev.iadd (q := 274) dX8_next_273 rfl ?_
            refine pI (q := 277) dX8_next_274 gfX8_17 k22 rfl rfl ?_
            refine Ev.goto (q := 191) dX8_next_277 (by decide) ?_
            rw [w32_of (z := (q : Int) + 1) (by omega) (by omega)]
            have hdq : isDg (tx q) = true := decide_eq_true (show 48 ≤ tx q ∧ tx q ≤ 57 by omega)
            have hd9 := dig_rng (tx := tx) (a := a) (min 3 (q - a)) (fun i hi => of_decide_eq_true (hall (a + i) (by omega) (by omega)))
            have hmin : min 3 (q - a) = q - a := by omega
            have hp9 : (10 : Int) ^ (q - a) ≤ 100 := by
              rcases (show q - a = 0 ∨ q - a = 1 ∨ q - a = 2 by omega) with e | e | e <;> rw [e] <;> decide
            rw [hmin] at hd9 ⊢
            refine ih (q + 1) _ (by omega) (by omega) ((hF.up rfl).up rfl) (by rw [up_eq]; omega) (by rw [up_k _ _ (by decide), up_k _ _ (by decide)]; exact ha4) ?_ (fun i h6 h7 => by by_cases e : i = q; (subst e; exact hdq); exact hall i h6 (by omega)) (by rw [hr, rE_in (by omega) hdq])
            rw [up_k _ _ (by decide), up_eq, show min 3 (q + 1 - a) = (q - a) + 1 by omega]
            show _ = 10 * dig tx a (q - a) + tx (a + (q - a)) - 48
            rw [show a + (q - a) = q by omega, w32_of (z := dig tx a (q - a) * 10) (by omega) (by omega), w32_of (z := dig tx a (q - a) * 10 + _) (by omega) (by omega), w32_of (by omega) (by omega)]
            omega
theorem tokV_a {tx : Nat → Int} {n p a : Nat} (h : rE isSp tx n p = a) : tokV tx n p = if n ≤ a then (24, a, a, 0) else if isSm (tx a) = true then (keyV tx a (rE isSm tx n a), a, rE isSm tx n a, 0) else if isDg (tx a) = true then ((if 3 < rE isDg tx n a - a then 25 else 23), a, rE isDg tx n a, dig tx a (min 3 (rE isDg tx n a - a))) else (sgnV (tx a), a, a + 1, 0) := by subst h; rfl
set_option maxRecDepth 4000 in
theorem p_X8_next {Γ : Gm} {d : Nat} {m : Mem} (tx : Nat → Int) (N p : Nat) (hN : N ≤ 900) (hC : TC m tx N) (hp : p ≤ N) (ha2 : m 22 2 = (p : Int)) : Ci Γ (d + 0) MX8_next [rv 22] m (fun r m' => TkC m' (tokV tx N p) ∧ Fr sTn m m') := by
  refine Ci.of moX8_next rfl rfl (fun hA hM => ?_)
  show Em Γ (d + 0) MX8_next _ 0 [rv 22, uv, uv, uv] [] m
  refine lc_nxA (m0 := m) tx N hN hC p (fun M hF ha2 => ?_) (N - p) p m (by omega) (Fr.rf _ _) ha2 rfl
  obtain ⟨hT, hL, hB⟩ := hC.keep hF
  obtain ⟨a, hae⟩ : ∃ a, rE isSp tx N p = a := ⟨_, rfl⟩
  rw [hae] at ha2
  have htok := tokV_a hae
  have haN := (rE_le isSp tx N p).2 hp
  rw [hae] at haN
  refine Ev.aload_n (q := 53) dX8_next_52 rfl rfl ?_
  refine Ev.aload_n (q := 54) dX8_next_53 rfl rfl ?_
  refine gI (q := 57) dX8_next_54 gfX8_17 k22 rfl rfl ?_
  rw [ha2]
  refine pI (q := 60) dX8_next_57 gfX8_23 k22 rfl rfl ?_
  refine Ev.aload_n (q := 61) dX8_next_60 rfl rfl ?_
  refine Ev.iconst (q := 62) dX8_next_61 ki_0 rfl ?_
  refine pI (q := 65) dX8_next_62 gfX8_26 k22 rfl rfl ?_
  refine Ev.aload_n (q := 66) dX8_next_65 rfl rfl ?_
  refine Ev.iconst (q := 67) dX8_next_66 ki_0 rfl ?_
  refine pI (q := 70) dX8_next_67 gfX8_20 k22 rfl rfl ?_
  refine Ev.aload_n (q := 71) dX8_next_70 rfl rfl ?_
  refine gI (q := 74) dX8_next_71 gfX8_17 k22 rfl rfl ?_
  rw [up_k _ _ (by decide), up_k _ _ (by decide), up_k _ _ (by decide), ha2]
  refine Ev.aload_n (q := 75) dX8_next_74 rfl rfl ?_
  refine gI (q := 78) dX8_next_75 gfX8_13 k22 rfl rfl ?_
  rw [up_k _ _ (by decide), up_k _ _ (by decide), up_k _ _ (by decide), hL]
  refine Ev.icmp_lt (tgt := 82) (q := 81) dX8_next_78 (by decide) rfl (fun h1 => ?_) (fun h1 => ?_)
  · skip
    have hlt : a < N := by omega
    rw [if_neg (by omega)] at htok
    refine Ev.aload_n (q := 83) dX8_next_82 rfl rfl ?_
    refine gDy (q := 86) (r := 1) dX8_next_83 gfX8_7 k22 (by rw [up_k _ _ (by decide), up_k _ _ (by decide), up_k _ _ (by decide)]; exact hT) rfl rfl ?_
    refine Ev.aload_n (q := 87) dX8_next_86 rfl rfl ?_
    refine Ev.dup (q := 88) dX8_next_87 (fun z => by cases z) rfl ?_
    refine gI (q := 91) dX8_next_88 gfX8_17 k22 rfl rfl ?_
    rw [up_k _ _ (by decide), up_k _ _ (by decide), up_k _ _ (by decide), ha2]
    refine Ev.dup_x1 (q := 92) dX8_next_91 (fun z => by cases z) (fun z => by cases z) rfl ?_
    refine Ev.iconst (q := 93) dX8_next_92 ki_1 rfl ?_
    refine Ev.iadd (q := 94) dX8_next_93 rfl ?_
    rw [w32_of (z := (a : Int) + 1) (by omega) (by omega)]
    refine pI (q := 97) dX8_next_94 gfX8_17 k22 rfl rfl ?_
    refine aB (q := 98) (k := a) dX8_next_97 k1 (by first | rfl | omega | (simp (disch := omega) only [w32_of]; omega)) (by omega) rfl ?_
    rw [up_o _ _ (by decide), up_o _ _ (by decide), up_o _ _ (by decide), up_o _ _ (by decide)]
    obtain ⟨b, hbe⟩ : ∃ b, b = M 1 a := ⟨_, rfl⟩
    rw [← hbe]
    refine istore_n_1 (q := 99) dX8_next_98 rfl rfl rfl ?_
    obtain ⟨Ms, hMs⟩ : ∃ Ms, Ms = up (up (up (up M 22 4 (a : Int)) 22 5 0) 22 3 0) 22 2 ((a : Int) + 1) := ⟨_, rfl⟩
    rw [← hMs]
    have s2 : Ms 22 2 = ((a + 1 : Nat) : Int) := by rw [hMs, up_eq]; omega
    have s4 : Ms 22 4 = (a : Int) := by rw [hMs]; simp (disch := decide) only [up_k, up_eq]
    have hFs : Fr sTn m Ms := by rw [hMs]; exact (((hF.up rfl).up rfl).up rfl).up rfl
    obtain ⟨hT, hL, hB⟩ := hC.keep hFs
    have hb := hB a hlt
    have e1 : Ms 1 a = b := by rw [hMs, up_o _ _ (by decide), up_o _ _ (by decide), up_o _ _ (by decide), up_o _ _ (by decide)]; exact hbe.symm
    rw [e1] at hb
    refine Ev.iload_n (q := 100) dX8_next_99 rfl rfl ?_
    refine Ev.bipush (q := 102) dX8_next_100 kb_97 rfl ?_
    refine Ev.icmp_lt (tgt := 171) (q := 105) dX8_next_102 (by decide) rfl (fun h21 => ?_) (fun h21 => ?_)
    · skip
      have hsm : ¬ isSm (tx a) = true := fun z => by have := of_decide_eq_true z; omega
      rw [if_neg hsm] at htok
      refine Ev.iload_n (q := 172) dX8_next_171 rfl rfl ?_
      refine Ev.bipush (q := 174) dX8_next_172 kb_48 rfl ?_
      refine Ev.icmp_lt (tgt := 305) (q := 177) dX8_next_174 (by decide) rfl (fun h31 => ?_) (fun h31 => ?_)
      · skip
        have hdg : ¬ isDg (tx a) = true := fun z => by have := of_decide_eq_true z; omega
        rw [if_neg hdg] at htok
        rw [htok]
        refine Ev.iload_n (q := 306) dX8_next_305 rfl rfl ?_
        refine Ev.bipush (q := 308) dX8_next_306 kb_43 rfl ?_
        refine Ev.icmp_eq (tgt := 323) (q := 311) dX8_next_308 (by decide) rfl (fun h41 => ?_) (fun h41 => ?_)
        · skip
          refine Ev.iconst (q := 324) dX8_next_323 ki_1 rfl ?_
          refine Ev.goto (q := 328) dX8_next_324 (by decide) ?_
          refine istore_n_2 (q := 329) dX8_next_328 rfl rfl rfl ?_
          refine Ev.iload_n (q := 330) dX8_next_329 rfl rfl ?_
          refine Ev.bipush (q := 332) dX8_next_330 kb_59 rfl ?_
          refine Ev.icmp_eq (tgt := 353) (q := 335) dX8_next_332 (by decide) rfl (fun h61 => ?_) (fun h61 => ?_)
          · skip
            refine Ev.iconst (q := 354) dX8_next_353 ki_1 rfl ?_
            refine Ev.goto (q := 358) dX8_next_354 (by decide) ?_
            refine istore_n_3 (q := 359) dX8_next_358 rfl rfl rfl ?_
            refine Ev.aload_n (q := 360) dX8_next_359 rfl rfl ?_
            refine Ev.iload_n (q := 361) dX8_next_360 rfl rfl ?_
            refine Ev.if_ne (tgt := 368) (q := 364) dX8_next_361 (by decide) rfl (fun h81 => ?_) (fun h81 => ?_)
            · skip
              refine Ev.iconst (q := 369) dX8_next_368 ki_3 rfl ?_
              refine Ev.goto (q := 373) dX8_next_369 (by decide) ?_
              refine pI (q := 376) dX8_next_373 gfX8_20 k22 rfl rfl ?_
              refine rV dX8_next_376 rfl ?_
              refine ⟨⟨?_, ?_, ?_, fun z => ?_⟩, hFs.up rfl⟩
              · rw [up_eq]; unfold kcl sgnV; dsimp only; repeat (first | rfl | omega | split)
              · rw [up_k _ _ (by decide)]; exact s4
              · rw [up_k _ _ (by decide)]; exact s2
              · have h3 := sgnV_rng (tx a)
                have z9 : sgnV (tx a) = 23 := z
                omega
            · skip
              omega
          · skip
            refine Ev.iload_n (q := 336) dX8_next_335 rfl rfl ?_
            refine Ev.bipush (q := 338) dX8_next_336 kb_58 rfl ?_
            refine Ev.icmp_eq (tgt := 353) (q := 341) dX8_next_338 (by decide) rfl (fun h62 => ?_) (fun h62 => ?_)
            · skip
              refine Ev.iconst (q := 354) dX8_next_353 ki_1 rfl ?_
              refine Ev.goto (q := 358) dX8_next_354 (by decide) ?_
              refine istore_n_3 (q := 359) dX8_next_358 rfl rfl rfl ?_
              refine Ev.aload_n (q := 360) dX8_next_359 rfl rfl ?_
              refine Ev.iload_n (q := 361) dX8_next_360 rfl rfl ?_
              refine Ev.if_ne (tgt := 368) (q := 364) dX8_next_361 (by decide) rfl (fun h81 => ?_) (fun h81 => ?_)
              · skip
                refine Ev.iconst (q := 369) dX8_next_368 ki_3 rfl ?_
                refine Ev.goto (q := 373) dX8_next_369 (by decide) ?_
                refine pI (q := 376) dX8_next_373 gfX8_20 k22 rfl rfl ?_
                refine rV dX8_next_376 rfl ?_
                refine ⟨⟨?_, ?_, ?_, fun z => ?_⟩, hFs.up rfl⟩
                · rw [up_eq]; unfold kcl sgnV; dsimp only; repeat (first | rfl | omega | split)
                · rw [up_k _ _ (by decide)]; exact s4
                · rw [up_k _ _ (by decide)]; exact s2
                · have h3 := sgnV_rng (tx a)
                  have z9 : sgnV (tx a) = 23 := z
                  omega
              · skip
                omega
            · skip
              refine Ev.iload_n (q := 342) dX8_next_341 rfl rfl ?_
              refine Ev.bipush (q := 344) dX8_next_342 kb_40 rfl ?_
              refine Ev.icmp_eq (tgt := 353) (q := 347) dX8_next_344 (by decide) rfl (fun h63 => ?_) (fun h63 => ?_)
              · skip
                refine Ev.iconst (q := 354) dX8_next_353 ki_1 rfl ?_
                refine Ev.goto (q := 358) dX8_next_354 (by decide) ?_
                refine istore_n_3 (q := 359) dX8_next_358 rfl rfl rfl ?_
                refine Ev.aload_n (q := 360) dX8_next_359 rfl rfl ?_
                refine Ev.iload_n (q := 361) dX8_next_360 rfl rfl ?_
                refine Ev.if_ne (tgt := 368) (q := 364) dX8_next_361 (by decide) rfl (fun h81 => ?_) (fun h81 => ?_)
                · skip
                  refine Ev.iconst (q := 369) dX8_next_368 ki_3 rfl ?_
                  refine Ev.goto (q := 373) dX8_next_369 (by decide) ?_
                  refine pI (q := 376) dX8_next_373 gfX8_20 k22 rfl rfl ?_
                  refine rV dX8_next_376 rfl ?_
                  refine ⟨⟨?_, ?_, ?_, fun z => ?_⟩, hFs.up rfl⟩
                  · rw [up_eq]; unfold kcl sgnV; dsimp only; repeat (first | rfl | omega | split)
                  · rw [up_k _ _ (by decide)]; exact s4
                  · rw [up_k _ _ (by decide)]; exact s2
                  · have h3 := sgnV_rng (tx a)
                    have z9 : sgnV (tx a) = 23 := z
                    omega
                · skip
                  omega
              · skip
                refine Ev.iload_n (q := 348) dX8_next_347 rfl rfl ?_
                refine Ev.bipush (q := 350) dX8_next_348 kb_41 rfl ?_
                refine Ev.icmp_ne (tgt := 357) (q := 353) dX8_next_350 (by decide) rfl (fun h64 => ?_) (fun h64 => ?_)
                · skip
                  refine Ev.iconst (q := 358) dX8_next_357 ki_0 rfl ?_
                  refine istore_n_3 (q := 359) dX8_next_358 rfl rfl rfl ?_
                  refine Ev.aload_n (q := 360) dX8_next_359 rfl rfl ?_
                  refine Ev.iload_n (q := 361) dX8_next_360 rfl rfl ?_
                  refine Ev.if_ne (tgt := 368) (q := 364) dX8_next_361 (by decide) rfl (fun h81 => ?_) (fun h81 => ?_)
                  · skip
                    refine Ev.iconst (q := 369) dX8_next_368 ki_3 rfl ?_
                    refine Ev.goto (q := 373) dX8_next_369 (by decide) ?_
                    refine pI (q := 376) dX8_next_373 gfX8_20 k22 rfl rfl ?_
                    refine rV dX8_next_376 rfl ?_
                    refine ⟨⟨?_, ?_, ?_, fun z => ?_⟩, hFs.up rfl⟩
                    · rw [up_eq]; unfold kcl sgnV; dsimp only; repeat (first | rfl | omega | split)
                    · rw [up_k _ _ (by decide)]; exact s4
                    · rw [up_k _ _ (by decide)]; exact s2
                    · have h3 := sgnV_rng (tx a)
                      have z9 : sgnV (tx a) = 23 := z
                      omega
                  · skip
                    omega
                · skip
                  refine Ev.iconst (q := 354) dX8_next_353 ki_1 rfl ?_
                  refine Ev.goto (q := 358) dX8_next_354 (by decide) ?_
                  refine istore_n_3 (q := 359) dX8_next_358 rfl rfl rfl ?_
                  refine Ev.aload_n (q := 360) dX8_next_359 rfl rfl ?_
                  refine Ev.iload_n (q := 361) dX8_next_360 rfl rfl ?_
                  refine Ev.if_ne (tgt := 368) (q := 364) dX8_next_361 (by decide) rfl (fun h81 => ?_) (fun h81 => ?_)
                  · skip
                    refine Ev.iconst (q := 369) dX8_next_368 ki_3 rfl ?_
                    refine Ev.goto (q := 373) dX8_next_369 (by decide) ?_
                    refine pI (q := 376) dX8_next_373 gfX8_20 k22 rfl rfl ?_
                    refine rV dX8_next_376 rfl ?_
                    refine ⟨⟨?_, ?_, ?_, fun z => ?_⟩, hFs.up rfl⟩
                    · rw [up_eq]; unfold kcl sgnV; dsimp only; repeat (first | rfl | omega | split)
                    · rw [up_k _ _ (by decide)]; exact s4
                    · rw [up_k _ _ (by decide)]; exact s2
                    · have h3 := sgnV_rng (tx a)
                      have z9 : sgnV (tx a) = 23 := z
                      omega
                  · skip
                    omega
        · skip
          refine Ev.iload_n (q := 312) dX8_next_311 rfl rfl ?_
          refine Ev.bipush (q := 314) dX8_next_312 kb_45 rfl ?_
          refine Ev.icmp_eq (tgt := 323) (q := 317) dX8_next_314 (by decide) rfl (fun h42 => ?_) (fun h42 => ?_)
          · skip
            refine Ev.iconst (q := 324) dX8_next_323 ki_1 rfl ?_
            refine Ev.goto (q := 328) dX8_next_324 (by decide) ?_
            refine istore_n_2 (q := 329) dX8_next_328 rfl rfl rfl ?_
            refine Ev.iload_n (q := 330) dX8_next_329 rfl rfl ?_
            refine Ev.bipush (q := 332) dX8_next_330 kb_59 rfl ?_
            refine Ev.icmp_eq (tgt := 353) (q := 335) dX8_next_332 (by decide) rfl (fun h61 => ?_) (fun h61 => ?_)
            · skip
              refine Ev.iconst (q := 354) dX8_next_353 ki_1 rfl ?_
              refine Ev.goto (q := 358) dX8_next_354 (by decide) ?_
              refine istore_n_3 (q := 359) dX8_next_358 rfl rfl rfl ?_
              refine Ev.aload_n (q := 360) dX8_next_359 rfl rfl ?_
              refine Ev.iload_n (q := 361) dX8_next_360 rfl rfl ?_
              refine Ev.if_ne (tgt := 368) (q := 364) dX8_next_361 (by decide) rfl (fun h81 => ?_) (fun h81 => ?_)
              · skip
                refine Ev.iconst (q := 369) dX8_next_368 ki_3 rfl ?_
                refine Ev.goto (q := 373) dX8_next_369 (by decide) ?_
                refine pI (q := 376) dX8_next_373 gfX8_20 k22 rfl rfl ?_
                refine rV dX8_next_376 rfl ?_
                refine ⟨⟨?_, ?_, ?_, fun z => ?_⟩, hFs.up rfl⟩
                · rw [up_eq]; unfold kcl sgnV; dsimp only; repeat (first | rfl | omega | split)
                · rw [up_k _ _ (by decide)]; exact s4
                · rw [up_k _ _ (by decide)]; exact s2
                · have h3 := sgnV_rng (tx a)
                  have z9 : sgnV (tx a) = 23 := z
                  omega
              · skip
                omega
            · skip
              refine Ev.iload_n (q := 336) dX8_next_335 rfl rfl ?_
              refine Ev.bipush (q := 338) dX8_next_336 kb_58 rfl ?_
              refine Ev.icmp_eq (tgt := 353) (q := 341) dX8_next_338 (by decide) rfl (fun h62 => ?_) (fun h62 => ?_)
              · skip
                refine Ev.iconst (q := 354) dX8_next_353 ki_1 rfl ?_
                refine Ev.goto (q := 358) dX8_next_354 (by decide) ?_
                refine istore_n_3 (q := 359) dX8_next_358 rfl rfl rfl ?_
                refine Ev.aload_n (q := 360) dX8_next_359 rfl rfl ?_
                refine Ev.iload_n (q := 361) dX8_next_360 rfl rfl ?_
                refine Ev.if_ne (tgt := 368) (q := 364) dX8_next_361 (by decide) rfl (fun h81 => ?_) (fun h81 => ?_)
                · skip
                  refine Ev.iconst (q := 369) dX8_next_368 ki_3 rfl ?_
                  refine Ev.goto (q := 373) dX8_next_369 (by decide) ?_
                  refine pI (q := 376) dX8_next_373 gfX8_20 k22 rfl rfl ?_
                  refine rV dX8_next_376 rfl ?_
                  refine ⟨⟨?_, ?_, ?_, fun z => ?_⟩, hFs.up rfl⟩
                  · rw [up_eq]; unfold kcl sgnV; dsimp only; repeat (first | rfl | omega | split)
                  · rw [up_k _ _ (by decide)]; exact s4
                  · rw [up_k _ _ (by decide)]; exact s2
                  · have h3 := sgnV_rng (tx a)
                    have z9 : sgnV (tx a) = 23 := z
                    omega
                · skip
                  omega
              · skip
                refine Ev.iload_n (q := 342) dX8_next_341 rfl rfl ?_
                refine Ev.bipush (q := 344) dX8_next_342 kb_40 rfl ?_
                refine Ev.icmp_eq (tgt := 353) (q := 347) dX8_next_344 (by decide) rfl (fun h63 => ?_) (fun h63 => ?_)
                · skip
                  refine Ev.iconst (q := 354) dX8_next_353 ki_1 rfl ?_
                  refine Ev.goto (q := 358) dX8_next_354 (by decide) ?_
                  refine istore_n_3 (q := 359) dX8_next_358 rfl rfl rfl ?_
                  refine Ev.aload_n (q := 360) dX8_next_359 rfl rfl ?_
                  refine Ev.iload_n (q := 361) dX8_next_360 rfl rfl ?_
                  refine Ev.if_ne (tgt := 368) (q := 364) dX8_next_361 (by decide) rfl (fun h81 => ?_) (fun h81 => ?_)
                  · skip
                    refine Ev.iconst (q := 369) dX8_next_368 ki_3 rfl ?_
                    refine Ev.goto (q := 373) dX8_next_369 (by decide) ?_
                    refine pI (q := 376) dX8_next_373 gfX8_20 k22 rfl rfl ?_
                    refine rV dX8_next_376 rfl ?_
                    refine ⟨⟨?_, ?_, ?_, fun z => ?_⟩, hFs.up rfl⟩
                    · rw [up_eq]; unfold kcl sgnV; dsimp only; repeat (first | rfl | omega | split)
                    · rw [up_k _ _ (by decide)]; exact s4
                    · rw [up_k _ _ (by decide)]; exact s2
                    · have h3 := sgnV_rng (tx a)
                      have z9 : sgnV (tx a) = 23 := z
                      omega
                  · skip
                    omega
                · skip
                  refine Ev.iload_n (q := 348) dX8_next_347 rfl rfl ?_
                  refine Ev.bipush (q := 350) dX8_next_348 kb_41 rfl ?_
                  refine Ev.icmp_ne (tgt := 357) (q := 353) dX8_next_350 (by decide) rfl (fun h64 => ?_) (fun h64 => ?_)
                  · skip
                    refine Ev.iconst (q := 358) dX8_next_357 ki_0 rfl ?_
                    refine istore_n_3 (q := 359) dX8_next_358 rfl rfl rfl ?_
                    refine Ev.aload_n (q := 360) dX8_next_359 rfl rfl ?_
                    refine Ev.iload_n (q := 361) dX8_next_360 rfl rfl ?_
                    refine Ev.if_ne (tgt := 368) (q := 364) dX8_next_361 (by decide) rfl (fun h81 => ?_) (fun h81 => ?_)
                    · skip
                      refine Ev.iconst (q := 369) dX8_next_368 ki_3 rfl ?_
                      refine Ev.goto (q := 373) dX8_next_369 (by decide) ?_
                      refine pI (q := 376) dX8_next_373 gfX8_20 k22 rfl rfl ?_
                      refine rV dX8_next_376 rfl ?_
                      refine ⟨⟨?_, ?_, ?_, fun z => ?_⟩, hFs.up rfl⟩
                      · rw [up_eq]; unfold kcl sgnV; dsimp only; repeat (first | rfl | omega | split)
                      · rw [up_k _ _ (by decide)]; exact s4
                      · rw [up_k _ _ (by decide)]; exact s2
                      · have h3 := sgnV_rng (tx a)
                        have z9 : sgnV (tx a) = 23 := z
                        omega
                    · skip
                      omega
                  · skip
                    refine Ev.iconst (q := 354) dX8_next_353 ki_1 rfl ?_
                    refine Ev.goto (q := 358) dX8_next_354 (by decide) ?_
                    refine istore_n_3 (q := 359) dX8_next_358 rfl rfl rfl ?_
                    refine Ev.aload_n (q := 360) dX8_next_359 rfl rfl ?_
                    refine Ev.iload_n (q := 361) dX8_next_360 rfl rfl ?_
                    refine Ev.if_ne (tgt := 368) (q := 364) dX8_next_361 (by decide) rfl (fun h81 => ?_) (fun h81 => ?_)
                    · skip
                      refine Ev.iconst (q := 369) dX8_next_368 ki_3 rfl ?_
                      refine Ev.goto (q := 373) dX8_next_369 (by decide) ?_
                      refine pI (q := 376) dX8_next_373 gfX8_20 k22 rfl rfl ?_
                      refine rV dX8_next_376 rfl ?_
                      refine ⟨⟨?_, ?_, ?_, fun z => ?_⟩, hFs.up rfl⟩
                      · rw [up_eq]; unfold kcl sgnV; dsimp only; repeat (first | rfl | omega | split)
                      · rw [up_k _ _ (by decide)]; exact s4
                      · rw [up_k _ _ (by decide)]; exact s2
                      · have h3 := sgnV_rng (tx a)
                        have z9 : sgnV (tx a) = 23 := z
                        omega
                    · skip
                      omega
          · skip
            refine Ev.iload_n (q := 318) dX8_next_317 rfl rfl ?_
            refine Ev.bipush (q := 320) dX8_next_318 kb_42 rfl ?_
            refine Ev.icmp_ne (tgt := 327) (q := 323) dX8_next_320 (by decide) rfl (fun h43 => ?_) (fun h43 => ?_)
            · skip
              refine Ev.iconst (q := 328) dX8_next_327 ki_0 rfl ?_
              refine istore_n_2 (q := 329) dX8_next_328 rfl rfl rfl ?_
              refine Ev.iload_n (q := 330) dX8_next_329 rfl rfl ?_
              refine Ev.bipush (q := 332) dX8_next_330 kb_59 rfl ?_
              refine Ev.icmp_eq (tgt := 353) (q := 335) dX8_next_332 (by decide) rfl (fun h61 => ?_) (fun h61 => ?_)
              · skip
                refine Ev.iconst (q := 354) dX8_next_353 ki_1 rfl ?_
                refine Ev.goto (q := 358) dX8_next_354 (by decide) ?_
                refine istore_n_3 (q := 359) dX8_next_358 rfl rfl rfl ?_
                refine Ev.aload_n (q := 360) dX8_next_359 rfl rfl ?_
                refine Ev.iload_n (q := 361) dX8_next_360 rfl rfl ?_
                refine Ev.if_ne (tgt := 368) (q := 364) dX8_next_361 (by decide) rfl (fun h81 => ?_) (fun h81 => ?_)
                · skip
                  omega
                · skip
                  refine Ev.iload_n (q := 365) dX8_next_364 rfl rfl ?_
                  refine Ev.if_eq (tgt := 372) (q := 368) dX8_next_365 (by decide) rfl (fun h82 => ?_) (fun h82 => ?_)
                  · skip
                    omega
                  · skip
                    refine Ev.iconst (q := 369) dX8_next_368 ki_3 rfl ?_
                    refine Ev.goto (q := 373) dX8_next_369 (by decide) ?_
                    refine pI (q := 376) dX8_next_373 gfX8_20 k22 rfl rfl ?_
                    refine rV dX8_next_376 rfl ?_
                    refine ⟨⟨?_, ?_, ?_, fun z => ?_⟩, hFs.up rfl⟩
                    · rw [up_eq]; unfold kcl sgnV; dsimp only; repeat (first | rfl | omega | split)
                    · rw [up_k _ _ (by decide)]; exact s4
                    · rw [up_k _ _ (by decide)]; exact s2
                    · have h3 := sgnV_rng (tx a)
                      have z9 : sgnV (tx a) = 23 := z
                      omega
              · skip
                refine Ev.iload_n (q := 336) dX8_next_335 rfl rfl ?_
                refine Ev.bipush (q := 338) dX8_next_336 kb_58 rfl ?_
                refine Ev.icmp_eq (tgt := 353) (q := 341) dX8_next_338 (by decide) rfl (fun h62 => ?_) (fun h62 => ?_)
                · skip
                  refine Ev.iconst (q := 354) dX8_next_353 ki_1 rfl ?_
                  refine Ev.goto (q := 358) dX8_next_354 (by decide) ?_
                  refine istore_n_3 (q := 359) dX8_next_358 rfl rfl rfl ?_
                  refine Ev.aload_n (q := 360) dX8_next_359 rfl rfl ?_
                  refine Ev.iload_n (q := 361) dX8_next_360 rfl rfl ?_
                  refine Ev.if_ne (tgt := 368) (q := 364) dX8_next_361 (by decide) rfl (fun h81 => ?_) (fun h81 => ?_)
                  · skip
                    omega
                  · skip
                    refine Ev.iload_n (q := 365) dX8_next_364 rfl rfl ?_
                    refine Ev.if_eq (tgt := 372) (q := 368) dX8_next_365 (by decide) rfl (fun h82 => ?_) (fun h82 => ?_)
                    · skip
                      omega
                    · skip
                      refine Ev.iconst (q := 369) dX8_next_368 ki_3 rfl ?_
                      refine Ev.goto (q := 373) dX8_next_369 (by decide) ?_
                      refine pI (q := 376) dX8_next_373 gfX8_20 k22 rfl rfl ?_
                      refine rV dX8_next_376 rfl ?_
                      refine ⟨⟨?_, ?_, ?_, fun z => ?_⟩, hFs.up rfl⟩
                      · rw [up_eq]; unfold kcl sgnV; dsimp only; repeat (first | rfl | omega | split)
                      · rw [up_k _ _ (by decide)]; exact s4
                      · rw [up_k _ _ (by decide)]; exact s2
                      · have h3 := sgnV_rng (tx a)
                        have z9 : sgnV (tx a) = 23 := z
                        omega
                · skip
                  refine Ev.iload_n (q := 342) dX8_next_341 rfl rfl ?_
                  refine Ev.bipush (q := 344) dX8_next_342 kb_40 rfl ?_
                  refine Ev.icmp_eq (tgt := 353) (q := 347) dX8_next_344 (by decide) rfl (fun h63 => ?_) (fun h63 => ?_)
                  · skip
                    refine Ev.iconst (q := 354) dX8_next_353 ki_1 rfl ?_
                    refine Ev.goto (q := 358) dX8_next_354 (by decide) ?_
                    refine istore_n_3 (q := 359) dX8_next_358 rfl rfl rfl ?_
                    refine Ev.aload_n (q := 360) dX8_next_359 rfl rfl ?_
                    refine Ev.iload_n (q := 361) dX8_next_360 rfl rfl ?_
                    refine Ev.if_ne (tgt := 368) (q := 364) dX8_next_361 (by decide) rfl (fun h81 => ?_) (fun h81 => ?_)
                    · skip
                      omega
                    · skip
                      refine Ev.iload_n (q := 365) dX8_next_364 rfl rfl ?_
                      refine Ev.if_eq (tgt := 372) (q := 368) dX8_next_365 (by decide) rfl (fun h82 => ?_) (fun h82 => ?_)
                      · skip
                        omega
                      · skip
                        refine Ev.iconst (q := 369) dX8_next_368 ki_3 rfl ?_
                        refine Ev.goto (q := 373) dX8_next_369 (by decide) ?_
                        refine pI (q := 376) dX8_next_373 gfX8_20 k22 rfl rfl ?_
                        refine rV dX8_next_376 rfl ?_
                        refine ⟨⟨?_, ?_, ?_, fun z => ?_⟩, hFs.up rfl⟩
                        · rw [up_eq]; unfold kcl sgnV; dsimp only; repeat (first | rfl | omega | split)
                        · rw [up_k _ _ (by decide)]; exact s4
                        · rw [up_k _ _ (by decide)]; exact s2
                        · have h3 := sgnV_rng (tx a)
                          have z9 : sgnV (tx a) = 23 := z
                          omega
                  · skip
                    refine Ev.iload_n (q := 348) dX8_next_347 rfl rfl ?_
                    refine Ev.bipush (q := 350) dX8_next_348 kb_41 rfl ?_
                    refine Ev.icmp_ne (tgt := 357) (q := 353) dX8_next_350 (by decide) rfl (fun h64 => ?_) (fun h64 => ?_)
                    · skip
                      refine Ev.iconst (q := 358) dX8_next_357 ki_0 rfl ?_
                      refine istore_n_3 (q := 359) dX8_next_358 rfl rfl rfl ?_
                      refine Ev.aload_n (q := 360) dX8_next_359 rfl rfl ?_
                      refine Ev.iload_n (q := 361) dX8_next_360 rfl rfl ?_
                      refine Ev.if_ne (tgt := 368) (q := 364) dX8_next_361 (by decide) rfl (fun h81 => ?_) (fun h81 => ?_)
                      · skip
                        omega
                      · skip
                        refine Ev.iload_n (q := 365) dX8_next_364 rfl rfl ?_
                        refine Ev.if_eq (tgt := 372) (q := 368) dX8_next_365 (by decide) rfl (fun h82 => ?_) (fun h82 => ?_)
                        · skip
                          refine Ev.iconst (q := 373) dX8_next_372 ki_4 rfl ?_
                          refine pI (q := 376) dX8_next_373 gfX8_20 k22 rfl rfl ?_
                          refine rV dX8_next_376 rfl ?_
                          refine ⟨⟨?_, ?_, ?_, fun z => ?_⟩, hFs.up rfl⟩
                          · rw [up_eq]; unfold kcl sgnV; dsimp only; repeat (first | rfl | omega | split)
                          · rw [up_k _ _ (by decide)]; exact s4
                          · rw [up_k _ _ (by decide)]; exact s2
                          · have h3 := sgnV_rng (tx a)
                            have z9 : sgnV (tx a) = 23 := z
                            omega
                        · skip
                          omega
                    · skip
                      refine Ev.iconst (q := 354) dX8_next_353 ki_1 rfl ?_
                      refine Ev.goto (q := 358) dX8_next_354 (by decide) ?_
                      refine istore_n_3 (q := 359) dX8_next_358 rfl rfl rfl ?_
                      refine Ev.aload_n (q := 360) dX8_next_359 rfl rfl ?_
                      refine Ev.iload_n (q := 361) dX8_next_360 rfl rfl ?_
                      refine Ev.if_ne (tgt := 368) (q := 364) dX8_next_361 (by decide) rfl (fun h81 => ?_) (fun h81 => ?_)
                      · skip
                        omega
                      · skip
                        refine Ev.iload_n (q := 365) dX8_next_364 rfl rfl ?_
                        refine Ev.if_eq (tgt := 372) (q := 368) dX8_next_365 (by decide) rfl (fun h82 => ?_) (fun h82 => ?_)
                        · skip
                          omega
                        · skip
                          refine Ev.iconst (q := 369) dX8_next_368 ki_3 rfl ?_
                          refine Ev.goto (q := 373) dX8_next_369 (by decide) ?_
                          refine pI (q := 376) dX8_next_373 gfX8_20 k22 rfl rfl ?_
                          refine rV dX8_next_376 rfl ?_
                          refine ⟨⟨?_, ?_, ?_, fun z => ?_⟩, hFs.up rfl⟩
                          · rw [up_eq]; unfold kcl sgnV; dsimp only; repeat (first | rfl | omega | split)
                          · rw [up_k _ _ (by decide)]; exact s4
                          · rw [up_k _ _ (by decide)]; exact s2
                          · have h3 := sgnV_rng (tx a)
                            have z9 : sgnV (tx a) = 23 := z
                            omega
            · skip
              refine Ev.iconst (q := 324) dX8_next_323 ki_1 rfl ?_
              refine Ev.goto (q := 328) dX8_next_324 (by decide) ?_
              refine istore_n_2 (q := 329) dX8_next_328 rfl rfl rfl ?_
              refine Ev.iload_n (q := 330) dX8_next_329 rfl rfl ?_
              refine Ev.bipush (q := 332) dX8_next_330 kb_59 rfl ?_
              refine Ev.icmp_eq (tgt := 353) (q := 335) dX8_next_332 (by decide) rfl (fun h61 => ?_) (fun h61 => ?_)
              · skip
                refine Ev.iconst (q := 354) dX8_next_353 ki_1 rfl ?_
                refine Ev.goto (q := 358) dX8_next_354 (by decide) ?_
                refine istore_n_3 (q := 359) dX8_next_358 rfl rfl rfl ?_
                refine Ev.aload_n (q := 360) dX8_next_359 rfl rfl ?_
                refine Ev.iload_n (q := 361) dX8_next_360 rfl rfl ?_
                refine Ev.if_ne (tgt := 368) (q := 364) dX8_next_361 (by decide) rfl (fun h81 => ?_) (fun h81 => ?_)
                · skip
                  refine Ev.iconst (q := 369) dX8_next_368 ki_3 rfl ?_
                  refine Ev.goto (q := 373) dX8_next_369 (by decide) ?_
                  refine pI (q := 376) dX8_next_373 gfX8_20 k22 rfl rfl ?_
                  refine rV dX8_next_376 rfl ?_
                  refine ⟨⟨?_, ?_, ?_, fun z => ?_⟩, hFs.up rfl⟩
                  · rw [up_eq]; unfold kcl sgnV; dsimp only; repeat (first | rfl | omega | split)
                  · rw [up_k _ _ (by decide)]; exact s4
                  · rw [up_k _ _ (by decide)]; exact s2
                  · have h3 := sgnV_rng (tx a)
                    have z9 : sgnV (tx a) = 23 := z
                    omega
                · skip
                  omega
              · skip
                refine Ev.iload_n (q := 336) dX8_next_335 rfl rfl ?_
                refine Ev.bipush (q := 338) dX8_next_336 kb_58 rfl ?_
                refine Ev.icmp_eq (tgt := 353) (q := 341) dX8_next_338 (by decide) rfl (fun h62 => ?_) (fun h62 => ?_)
                · skip
                  refine Ev.iconst (q := 354) dX8_next_353 ki_1 rfl ?_
                  refine Ev.goto (q := 358) dX8_next_354 (by decide) ?_
                  refine istore_n_3 (q := 359) dX8_next_358 rfl rfl rfl ?_
                  refine Ev.aload_n (q := 360) dX8_next_359 rfl rfl ?_
                  refine Ev.iload_n (q := 361) dX8_next_360 rfl rfl ?_
                  refine Ev.if_ne (tgt := 368) (q := 364) dX8_next_361 (by decide) rfl (fun h81 => ?_) (fun h81 => ?_)
                  · skip
                    refine Ev.iconst (q := 369) dX8_next_368 ki_3 rfl ?_
                    refine Ev.goto (q := 373) dX8_next_369 (by decide) ?_
                    refine pI (q := 376) dX8_next_373 gfX8_20 k22 rfl rfl ?_
                    refine rV dX8_next_376 rfl ?_
                    refine ⟨⟨?_, ?_, ?_, fun z => ?_⟩, hFs.up rfl⟩
                    · rw [up_eq]; unfold kcl sgnV; dsimp only; repeat (first | rfl | omega | split)
                    · rw [up_k _ _ (by decide)]; exact s4
                    · rw [up_k _ _ (by decide)]; exact s2
                    · have h3 := sgnV_rng (tx a)
                      have z9 : sgnV (tx a) = 23 := z
                      omega
                  · skip
                    omega
                · skip
                  refine Ev.iload_n (q := 342) dX8_next_341 rfl rfl ?_
                  refine Ev.bipush (q := 344) dX8_next_342 kb_40 rfl ?_
                  refine Ev.icmp_eq (tgt := 353) (q := 347) dX8_next_344 (by decide) rfl (fun h63 => ?_) (fun h63 => ?_)
                  · skip
                    refine Ev.iconst (q := 354) dX8_next_353 ki_1 rfl ?_
                    refine Ev.goto (q := 358) dX8_next_354 (by decide) ?_
                    refine istore_n_3 (q := 359) dX8_next_358 rfl rfl rfl ?_
                    refine Ev.aload_n (q := 360) dX8_next_359 rfl rfl ?_
                    refine Ev.iload_n (q := 361) dX8_next_360 rfl rfl ?_
                    refine Ev.if_ne (tgt := 368) (q := 364) dX8_next_361 (by decide) rfl (fun h81 => ?_) (fun h81 => ?_)
                    · skip
                      refine Ev.iconst (q := 369) dX8_next_368 ki_3 rfl ?_
                      refine Ev.goto (q := 373) dX8_next_369 (by decide) ?_
                      refine pI (q := 376) dX8_next_373 gfX8_20 k22 rfl rfl ?_
                      refine rV dX8_next_376 rfl ?_
                      refine ⟨⟨?_, ?_, ?_, fun z => ?_⟩, hFs.up rfl⟩
                      · rw [up_eq]; unfold kcl sgnV; dsimp only; repeat (first | rfl | omega | split)
                      · rw [up_k _ _ (by decide)]; exact s4
                      · rw [up_k _ _ (by decide)]; exact s2
                      · have h3 := sgnV_rng (tx a)
                        have z9 : sgnV (tx a) = 23 := z
                        omega
                    · skip
                      omega
                  · skip
                    refine Ev.iload_n (q := 348) dX8_next_347 rfl rfl ?_
                    refine Ev.bipush (q := 350) dX8_next_348 kb_41 rfl ?_
                    refine Ev.icmp_ne (tgt := 357) (q := 353) dX8_next_350 (by decide) rfl (fun h64 => ?_) (fun h64 => ?_)
                    · skip
                      refine Ev.iconst (q := 358) dX8_next_357 ki_0 rfl ?_
                      refine istore_n_3 (q := 359) dX8_next_358 rfl rfl rfl ?_
                      refine Ev.aload_n (q := 360) dX8_next_359 rfl rfl ?_
                      refine Ev.iload_n (q := 361) dX8_next_360 rfl rfl ?_
                      refine Ev.if_ne (tgt := 368) (q := 364) dX8_next_361 (by decide) rfl (fun h81 => ?_) (fun h81 => ?_)
                      · skip
                        refine Ev.iconst (q := 369) dX8_next_368 ki_3 rfl ?_
                        refine Ev.goto (q := 373) dX8_next_369 (by decide) ?_
                        refine pI (q := 376) dX8_next_373 gfX8_20 k22 rfl rfl ?_
                        refine rV dX8_next_376 rfl ?_
                        refine ⟨⟨?_, ?_, ?_, fun z => ?_⟩, hFs.up rfl⟩
                        · rw [up_eq]; unfold kcl sgnV; dsimp only; repeat (first | rfl | omega | split)
                        · rw [up_k _ _ (by decide)]; exact s4
                        · rw [up_k _ _ (by decide)]; exact s2
                        · have h3 := sgnV_rng (tx a)
                          have z9 : sgnV (tx a) = 23 := z
                          omega
                      · skip
                        omega
                    · skip
                      refine Ev.iconst (q := 354) dX8_next_353 ki_1 rfl ?_
                      refine Ev.goto (q := 358) dX8_next_354 (by decide) ?_
                      refine istore_n_3 (q := 359) dX8_next_358 rfl rfl rfl ?_
                      refine Ev.aload_n (q := 360) dX8_next_359 rfl rfl ?_
                      refine Ev.iload_n (q := 361) dX8_next_360 rfl rfl ?_
                      refine Ev.if_ne (tgt := 368) (q := 364) dX8_next_361 (by decide) rfl (fun h81 => ?_) (fun h81 => ?_)
                      · skip
                        refine Ev.iconst (q := 369) dX8_next_368 ki_3 rfl ?_
                        refine Ev.goto (q := 373) dX8_next_369 (by decide) ?_
                        refine pI (q := 376) dX8_next_373 gfX8_20 k22 rfl rfl ?_
                        refine rV dX8_next_376 rfl ?_
                        refine ⟨⟨?_, ?_, ?_, fun z => ?_⟩, hFs.up rfl⟩
                        · rw [up_eq]; unfold kcl sgnV; dsimp only; repeat (first | rfl | omega | split)
                        · rw [up_k _ _ (by decide)]; exact s4
                        · rw [up_k _ _ (by decide)]; exact s2
                        · have h3 := sgnV_rng (tx a)
                          have z9 : sgnV (tx a) = 23 := z
                          omega
                      · skip
                        omega
      · skip
        refine Ev.iload_n (q := 178) dX8_next_177 rfl rfl ?_
        refine Ev.bipush (q := 180) dX8_next_178 kb_57 rfl ?_
        refine Ev.icmp_gt (tgt := 305) (q := 183) dX8_next_180 (by decide) rfl (fun h32 => ?_) (fun h32 => ?_)
        · skip
          have hdg : ¬ isDg (tx a) = true := fun z => by have := of_decide_eq_true z; omega
          rw [if_neg hdg] at htok
          rw [htok]
          refine Ev.iload_n (q := 306) dX8_next_305 rfl rfl ?_
          refine Ev.bipush (q := 308) dX8_next_306 kb_43 rfl ?_
          refine Ev.icmp_eq (tgt := 323) (q := 311) dX8_next_308 (by decide) rfl (fun h41 => ?_) (fun h41 => ?_)
          · skip
            refine Ev.iconst (q := 324) dX8_next_323 ki_1 rfl ?_
            refine Ev.goto (q := 328) dX8_next_324 (by decide) ?_
            refine istore_n_2 (q := 329) dX8_next_328 rfl rfl rfl ?_
            refine Ev.iload_n (q := 330) dX8_next_329 rfl rfl ?_
            refine Ev.bipush (q := 332) dX8_next_330 kb_59 rfl ?_
            refine Ev.icmp_eq (tgt := 353) (q := 335) dX8_next_332 (by decide) rfl (fun h61 => ?_) (fun h61 => ?_)
            · skip
              refine Ev.iconst (q := 354) dX8_next_353 ki_1 rfl ?_
              refine Ev.goto (q := 358) dX8_next_354 (by decide) ?_
              refine istore_n_3 (q := 359) dX8_next_358 rfl rfl rfl ?_
              refine Ev.aload_n (q := 360) dX8_next_359 rfl rfl ?_
              refine Ev.iload_n (q := 361) dX8_next_360 rfl rfl ?_
              refine Ev.if_ne (tgt := 368) (q := 364) dX8_next_361 (by decide) rfl (fun h81 => ?_) (fun h81 => ?_)
              · skip
                refine Ev.iconst (q := 369) dX8_next_368 ki_3 rfl ?_
                refine Ev.goto (q := 373) dX8_next_369 (by decide) ?_
                refine pI (q := 376) dX8_next_373 gfX8_20 k22 rfl rfl ?_
                refine rV dX8_next_376 rfl ?_
                refine ⟨⟨?_, ?_, ?_, fun z => ?_⟩, hFs.up rfl⟩
                · rw [up_eq]; unfold kcl sgnV; dsimp only; repeat (first | rfl | omega | split)
                · rw [up_k _ _ (by decide)]; exact s4
                · rw [up_k _ _ (by decide)]; exact s2
                · have h3 := sgnV_rng (tx a)
                  have z9 : sgnV (tx a) = 23 := z
                  omega
              · skip
                omega
            · skip
              refine Ev.iload_n (q := 336) dX8_next_335 rfl rfl ?_
              refine Ev.bipush (q := 338) dX8_next_336 kb_58 rfl ?_
              refine Ev.icmp_eq (tgt := 353) (q := 341) dX8_next_338 (by decide) rfl (fun h62 => ?_) (fun h62 => ?_)
              · skip
                refine Ev.iconst (q := 354) dX8_next_353 ki_1 rfl ?_
                refine Ev.goto (q := 358) dX8_next_354 (by decide) ?_
                refine istore_n_3 (q := 359) dX8_next_358 rfl rfl rfl ?_
                refine Ev.aload_n (q := 360) dX8_next_359 rfl rfl ?_
                refine Ev.iload_n (q := 361) dX8_next_360 rfl rfl ?_
                refine Ev.if_ne (tgt := 368) (q := 364) dX8_next_361 (by decide) rfl (fun h81 => ?_) (fun h81 => ?_)
                · skip
                  refine Ev.iconst (q := 369) dX8_next_368 ki_3 rfl ?_
                  refine Ev.goto (q := 373) dX8_next_369 (by decide) ?_
                  refine pI (q := 376) dX8_next_373 gfX8_20 k22 rfl rfl ?_
                  refine rV dX8_next_376 rfl ?_
                  refine ⟨⟨?_, ?_, ?_, fun z => ?_⟩, hFs.up rfl⟩
                  · rw [up_eq]; unfold kcl sgnV; dsimp only; repeat (first | rfl | omega | split)
                  · rw [up_k _ _ (by decide)]; exact s4
                  · rw [up_k _ _ (by decide)]; exact s2
                  · have h3 := sgnV_rng (tx a)
                    have z9 : sgnV (tx a) = 23 := z
                    omega
                · skip
                  omega
              · skip
                refine Ev.iload_n (q := 342) dX8_next_341 rfl rfl ?_
                refine Ev.bipush (q := 344) dX8_next_342 kb_40 rfl ?_
                refine Ev.icmp_eq (tgt := 353) (q := 347) dX8_next_344 (by decide) rfl (fun h63 => ?_) (fun h63 => ?_)
                · skip
                  refine Ev.iconst (q := 354) dX8_next_353 ki_1 rfl ?_
                  refine Ev.goto (q := 358) dX8_next_354 (by decide) ?_
                  refine istore_n_3 (q := 359) dX8_next_358 rfl rfl rfl ?_
                  refine Ev.aload_n (q := 360) dX8_next_359 rfl rfl ?_
                  refine Ev.iload_n (q := 361) dX8_next_360 rfl rfl ?_
                  refine Ev.if_ne (tgt := 368) (q := 364) dX8_next_361 (by decide) rfl (fun h81 => ?_) (fun h81 => ?_)
                  · skip
                    refine Ev.iconst (q := 369) dX8_next_368 ki_3 rfl ?_
                    refine Ev.goto (q := 373) dX8_next_369 (by decide) ?_
                    refine pI (q := 376) dX8_next_373 gfX8_20 k22 rfl rfl ?_
                    refine rV dX8_next_376 rfl ?_
                    refine ⟨⟨?_, ?_, ?_, fun z => ?_⟩, hFs.up rfl⟩
                    · rw [up_eq]; unfold kcl sgnV; dsimp only; repeat (first | rfl | omega | split)
                    · rw [up_k _ _ (by decide)]; exact s4
                    · rw [up_k _ _ (by decide)]; exact s2
                    · have h3 := sgnV_rng (tx a)
                      have z9 : sgnV (tx a) = 23 := z
                      omega
                  · skip
                    omega
                · skip
                  refine Ev.iload_n (q := 348) dX8_next_347 rfl rfl ?_
                  refine Ev.bipush (q := 350) dX8_next_348 kb_41 rfl ?_
                  refine Ev.icmp_ne (tgt := 357) (q := 353) dX8_next_350 (by decide) rfl (fun h64 => ?_) (fun h64 => ?_)
                  · skip
                    refine Ev.iconst (q := 358) dX8_next_357 ki_0 rfl ?_
                    refine istore_n_3 (q := 359) dX8_next_358 rfl rfl rfl ?_
                    refine Ev.aload_n (q := 360) dX8_next_359 rfl rfl ?_
                    refine Ev.iload_n (q := 361) dX8_next_360 rfl rfl ?_
                    refine Ev.if_ne (tgt := 368) (q := 364) dX8_next_361 (by decide) rfl (fun h81 => ?_) (fun h81 => ?_)
                    · skip
                      refine Ev.iconst (q := 369) dX8_next_368 ki_3 rfl ?_
                      refine Ev.goto (q := 373) dX8_next_369 (by decide) ?_
                      refine pI (q := 376) dX8_next_373 gfX8_20 k22 rfl rfl ?_
                      refine rV dX8_next_376 rfl ?_
                      refine ⟨⟨?_, ?_, ?_, fun z => ?_⟩, hFs.up rfl⟩
                      · rw [up_eq]; unfold kcl sgnV; dsimp only; repeat (first | rfl | omega | split)
                      · rw [up_k _ _ (by decide)]; exact s4
                      · rw [up_k _ _ (by decide)]; exact s2
                      · have h3 := sgnV_rng (tx a)
                        have z9 : sgnV (tx a) = 23 := z
                        omega
                    · skip
                      omega
                  · skip
                    refine Ev.iconst (q := 354) dX8_next_353 ki_1 rfl ?_
                    refine Ev.goto (q := 358) dX8_next_354 (by decide) ?_
                    refine istore_n_3 (q := 359) dX8_next_358 rfl rfl rfl ?_
                    refine Ev.aload_n (q := 360) dX8_next_359 rfl rfl ?_
                    refine Ev.iload_n (q := 361) dX8_next_360 rfl rfl ?_
                    refine Ev.if_ne (tgt := 368) (q := 364) dX8_next_361 (by decide) rfl (fun h81 => ?_) (fun h81 => ?_)
                    · skip
                      refine Ev.iconst (q := 369) dX8_next_368 ki_3 rfl ?_
                      refine Ev.goto (q := 373) dX8_next_369 (by decide) ?_
                      refine pI (q := 376) dX8_next_373 gfX8_20 k22 rfl rfl ?_
                      refine rV dX8_next_376 rfl ?_
                      refine ⟨⟨?_, ?_, ?_, fun z => ?_⟩, hFs.up rfl⟩
                      · rw [up_eq]; unfold kcl sgnV; dsimp only; repeat (first | rfl | omega | split)
                      · rw [up_k _ _ (by decide)]; exact s4
                      · rw [up_k _ _ (by decide)]; exact s2
                      · have h3 := sgnV_rng (tx a)
                        have z9 : sgnV (tx a) = 23 := z
                        omega
                    · skip
                      omega
          · skip
            refine Ev.iload_n (q := 312) dX8_next_311 rfl rfl ?_
            refine Ev.bipush (q := 314) dX8_next_312 kb_45 rfl ?_
            refine Ev.icmp_eq (tgt := 323) (q := 317) dX8_next_314 (by decide) rfl (fun h42 => ?_) (fun h42 => ?_)
            · skip
              refine Ev.iconst (q := 324) dX8_next_323 ki_1 rfl ?_
              refine Ev.goto (q := 328) dX8_next_324 (by decide) ?_
              refine istore_n_2 (q := 329) dX8_next_328 rfl rfl rfl ?_
              refine Ev.iload_n (q := 330) dX8_next_329 rfl rfl ?_
              refine Ev.bipush (q := 332) dX8_next_330 kb_59 rfl ?_
              refine Ev.icmp_eq (tgt := 353) (q := 335) dX8_next_332 (by decide) rfl (fun h61 => ?_) (fun h61 => ?_)
              · skip
                refine Ev.iconst (q := 354) dX8_next_353 ki_1 rfl ?_
                refine Ev.goto (q := 358) dX8_next_354 (by decide) ?_
                refine istore_n_3 (q := 359) dX8_next_358 rfl rfl rfl ?_
                refine Ev.aload_n (q := 360) dX8_next_359 rfl rfl ?_
                refine Ev.iload_n (q := 361) dX8_next_360 rfl rfl ?_
                refine Ev.if_ne (tgt := 368) (q := 364) dX8_next_361 (by decide) rfl (fun h81 => ?_) (fun h81 => ?_)
                · skip
                  refine Ev.iconst (q := 369) dX8_next_368 ki_3 rfl ?_
                  refine Ev.goto (q := 373) dX8_next_369 (by decide) ?_
                  refine pI (q := 376) dX8_next_373 gfX8_20 k22 rfl rfl ?_
                  refine rV dX8_next_376 rfl ?_
                  refine ⟨⟨?_, ?_, ?_, fun z => ?_⟩, hFs.up rfl⟩
                  · rw [up_eq]; unfold kcl sgnV; dsimp only; repeat (first | rfl | omega | split)
                  · rw [up_k _ _ (by decide)]; exact s4
                  · rw [up_k _ _ (by decide)]; exact s2
                  · have h3 := sgnV_rng (tx a)
                    have z9 : sgnV (tx a) = 23 := z
                    omega
                · skip
                  omega
              · skip
                refine Ev.iload_n (q := 336) dX8_next_335 rfl rfl ?_
                refine Ev.bipush (q := 338) dX8_next_336 kb_58 rfl ?_
                refine Ev.icmp_eq (tgt := 353) (q := 341) dX8_next_338 (by decide) rfl (fun h62 => ?_) (fun h62 => ?_)
                · skip
                  refine Ev.iconst (q := 354) dX8_next_353 ki_1 rfl ?_
                  refine Ev.goto (q := 358) dX8_next_354 (by decide) ?_
                  refine istore_n_3 (q := 359) dX8_next_358 rfl rfl rfl ?_
                  refine Ev.aload_n (q := 360) dX8_next_359 rfl rfl ?_
                  refine Ev.iload_n (q := 361) dX8_next_360 rfl rfl ?_
                  refine Ev.if_ne (tgt := 368) (q := 364) dX8_next_361 (by decide) rfl (fun h81 => ?_) (fun h81 => ?_)
                  · skip
                    refine Ev.iconst (q := 369) dX8_next_368 ki_3 rfl ?_
                    refine Ev.goto (q := 373) dX8_next_369 (by decide) ?_
                    refine pI (q := 376) dX8_next_373 gfX8_20 k22 rfl rfl ?_
                    refine rV dX8_next_376 rfl ?_
                    refine ⟨⟨?_, ?_, ?_, fun z => ?_⟩, hFs.up rfl⟩
                    · rw [up_eq]; unfold kcl sgnV; dsimp only; repeat (first | rfl | omega | split)
                    · rw [up_k _ _ (by decide)]; exact s4
                    · rw [up_k _ _ (by decide)]; exact s2
                    · have h3 := sgnV_rng (tx a)
                      have z9 : sgnV (tx a) = 23 := z
                      omega
                  · skip
                    omega
                · skip
                  refine Ev.iload_n (q := 342) dX8_next_341 rfl rfl ?_
                  refine Ev.bipush (q := 344) dX8_next_342 kb_40 rfl ?_
                  refine Ev.icmp_eq (tgt := 353) (q := 347) dX8_next_344 (by decide) rfl (fun h63 => ?_) (fun h63 => ?_)
                  · skip
                    refine Ev.iconst (q := 354) dX8_next_353 ki_1 rfl ?_
                    refine Ev.goto (q := 358) dX8_next_354 (by decide) ?_
                    refine istore_n_3 (q := 359) dX8_next_358 rfl rfl rfl ?_
                    refine Ev.aload_n (q := 360) dX8_next_359 rfl rfl ?_
                    refine Ev.iload_n (q := 361) dX8_next_360 rfl rfl ?_
                    refine Ev.if_ne (tgt := 368) (q := 364) dX8_next_361 (by decide) rfl (fun h81 => ?_) (fun h81 => ?_)
                    · skip
                      refine Ev.iconst (q := 369) dX8_next_368 ki_3 rfl ?_
                      refine Ev.goto (q := 373) dX8_next_369 (by decide) ?_
                      refine pI (q := 376) dX8_next_373 gfX8_20 k22 rfl rfl ?_
                      refine rV dX8_next_376 rfl ?_
                      refine ⟨⟨?_, ?_, ?_, fun z => ?_⟩, hFs.up rfl⟩
                      · rw [up_eq]; unfold kcl sgnV; dsimp only; repeat (first | rfl | omega | split)
                      · rw [up_k _ _ (by decide)]; exact s4
                      · rw [up_k _ _ (by decide)]; exact s2
                      · have h3 := sgnV_rng (tx a)
                        have z9 : sgnV (tx a) = 23 := z
                        omega
                    · skip
                      omega
                  · skip
                    refine Ev.iload_n (q := 348) dX8_next_347 rfl rfl ?_
                    refine Ev.bipush (q := 350) dX8_next_348 kb_41 rfl ?_
                    refine Ev.icmp_ne (tgt := 357) (q := 353) dX8_next_350 (by decide) rfl (fun h64 => ?_) (fun h64 => ?_)
                    · skip
                      refine Ev.iconst (q := 358) dX8_next_357 ki_0 rfl ?_
                      refine istore_n_3 (q := 359) dX8_next_358 rfl rfl rfl ?_
                      refine Ev.aload_n (q := 360) dX8_next_359 rfl rfl ?_
                      refine Ev.iload_n (q := 361) dX8_next_360 rfl rfl ?_
                      refine Ev.if_ne (tgt := 368) (q := 364) dX8_next_361 (by decide) rfl (fun h81 => ?_) (fun h81 => ?_)
                      · skip
                        refine Ev.iconst (q := 369) dX8_next_368 ki_3 rfl ?_
                        refine Ev.goto (q := 373) dX8_next_369 (by decide) ?_
                        refine pI (q := 376) dX8_next_373 gfX8_20 k22 rfl rfl ?_
                        refine rV dX8_next_376 rfl ?_
                        refine ⟨⟨?_, ?_, ?_, fun z => ?_⟩, hFs.up rfl⟩
                        · rw [up_eq]; unfold kcl sgnV; dsimp only; repeat (first | rfl | omega | split)
                        · rw [up_k _ _ (by decide)]; exact s4
                        · rw [up_k _ _ (by decide)]; exact s2
                        · have h3 := sgnV_rng (tx a)
                          have z9 : sgnV (tx a) = 23 := z
                          omega
                      · skip
                        omega
                    · skip
                      refine Ev.iconst (q := 354) dX8_next_353 ki_1 rfl ?_
                      refine Ev.goto (q := 358) dX8_next_354 (by decide) ?_
                      refine istore_n_3 (q := 359) dX8_next_358 rfl rfl rfl ?_
                      refine Ev.aload_n (q := 360) dX8_next_359 rfl rfl ?_
                      refine Ev.iload_n (q := 361) dX8_next_360 rfl rfl ?_
                      refine Ev.if_ne (tgt := 368) (q := 364) dX8_next_361 (by decide) rfl (fun h81 => ?_) (fun h81 => ?_)
                      · skip
                        refine Ev.iconst (q := 369) dX8_next_368 ki_3 rfl ?_
                        refine Ev.goto (q := 373) dX8_next_369 (by decide) ?_
                        refine pI (q := 376) dX8_next_373 gfX8_20 k22 rfl rfl ?_
                        refine rV dX8_next_376 rfl ?_
                        refine ⟨⟨?_, ?_, ?_, fun z => ?_⟩, hFs.up rfl⟩
                        · rw [up_eq]; unfold kcl sgnV; dsimp only; repeat (first | rfl | omega | split)
                        · rw [up_k _ _ (by decide)]; exact s4
                        · rw [up_k _ _ (by decide)]; exact s2
                        · have h3 := sgnV_rng (tx a)
                          have z9 : sgnV (tx a) = 23 := z
                          omega
                      · skip
                        omega
            · skip
              refine Ev.iload_n (q := 318) dX8_next_317 rfl rfl ?_
              refine Ev.bipush (q := 320) dX8_next_318 kb_42 rfl ?_
              refine Ev.icmp_ne (tgt := 327) (q := 323) dX8_next_320 (by decide) rfl (fun h43 => ?_) (fun h43 => ?_)
              · skip
                refine Ev.iconst (q := 328) dX8_next_327 ki_0 rfl ?_
                refine istore_n_2 (q := 329) dX8_next_328 rfl rfl rfl ?_
                refine Ev.iload_n (q := 330) dX8_next_329 rfl rfl ?_
                refine Ev.bipush (q := 332) dX8_next_330 kb_59 rfl ?_
                refine Ev.icmp_eq (tgt := 353) (q := 335) dX8_next_332 (by decide) rfl (fun h61 => ?_) (fun h61 => ?_)
                · skip
                  refine Ev.iconst (q := 354) dX8_next_353 ki_1 rfl ?_
                  refine Ev.goto (q := 358) dX8_next_354 (by decide) ?_
                  refine istore_n_3 (q := 359) dX8_next_358 rfl rfl rfl ?_
                  refine Ev.aload_n (q := 360) dX8_next_359 rfl rfl ?_
                  refine Ev.iload_n (q := 361) dX8_next_360 rfl rfl ?_
                  refine Ev.if_ne (tgt := 368) (q := 364) dX8_next_361 (by decide) rfl (fun h81 => ?_) (fun h81 => ?_)
                  · skip
                    omega
                  · skip
                    refine Ev.iload_n (q := 365) dX8_next_364 rfl rfl ?_
                    refine Ev.if_eq (tgt := 372) (q := 368) dX8_next_365 (by decide) rfl (fun h82 => ?_) (fun h82 => ?_)
                    · skip
                      omega
                    · skip
                      refine Ev.iconst (q := 369) dX8_next_368 ki_3 rfl ?_
                      refine Ev.goto (q := 373) dX8_next_369 (by decide) ?_
                      refine pI (q := 376) dX8_next_373 gfX8_20 k22 rfl rfl ?_
                      refine rV dX8_next_376 rfl ?_
                      refine ⟨⟨?_, ?_, ?_, fun z => ?_⟩, hFs.up rfl⟩
                      · rw [up_eq]; unfold kcl sgnV; dsimp only; repeat (first | rfl | omega | split)
                      · rw [up_k _ _ (by decide)]; exact s4
                      · rw [up_k _ _ (by decide)]; exact s2
                      · have h3 := sgnV_rng (tx a)
                        have z9 : sgnV (tx a) = 23 := z
                        omega
                · skip
                  refine Ev.iload_n (q := 336) dX8_next_335 rfl rfl ?_
                  refine Ev.bipush (q := 338) dX8_next_336 kb_58 rfl ?_
                  refine Ev.icmp_eq (tgt := 353) (q := 341) dX8_next_338 (by decide) rfl (fun h62 => ?_) (fun h62 => ?_)
                  · skip
                    refine Ev.iconst (q := 354) dX8_next_353 ki_1 rfl ?_
                    refine Ev.goto (q := 358) dX8_next_354 (by decide) ?_
                    refine istore_n_3 (q := 359) dX8_next_358 rfl rfl rfl ?_
                    refine Ev.aload_n (q := 360) dX8_next_359 rfl rfl ?_
                    refine Ev.iload_n (q := 361) dX8_next_360 rfl rfl ?_
                    refine Ev.if_ne (tgt := 368) (q := 364) dX8_next_361 (by decide) rfl (fun h81 => ?_) (fun h81 => ?_)
                    · skip
                      omega
                    · skip
                      refine Ev.iload_n (q := 365) dX8_next_364 rfl rfl ?_
                      refine Ev.if_eq (tgt := 372) (q := 368) dX8_next_365 (by decide) rfl (fun h82 => ?_) (fun h82 => ?_)
                      · skip
                        omega
                      · skip
                        refine Ev.iconst (q := 369) dX8_next_368 ki_3 rfl ?_
                        refine Ev.goto (q := 373) dX8_next_369 (by decide) ?_
                        refine pI (q := 376) dX8_next_373 gfX8_20 k22 rfl rfl ?_
                        refine rV dX8_next_376 rfl ?_
                        refine ⟨⟨?_, ?_, ?_, fun z => ?_⟩, hFs.up rfl⟩
                        · rw [up_eq]; unfold kcl sgnV; dsimp only; repeat (first | rfl | omega | split)
                        · rw [up_k _ _ (by decide)]; exact s4
                        · rw [up_k _ _ (by decide)]; exact s2
                        · have h3 := sgnV_rng (tx a)
                          have z9 : sgnV (tx a) = 23 := z
                          omega
                  · skip
                    refine Ev.iload_n (q := 342) dX8_next_341 rfl rfl ?_
                    refine Ev.bipush (q := 344) dX8_next_342 kb_40 rfl ?_
                    refine Ev.icmp_eq (tgt := 353) (q := 347) dX8_next_344 (by decide) rfl (fun h63 => ?_) (fun h63 => ?_)
                    · skip
                      refine Ev.iconst (q := 354) dX8_next_353 ki_1 rfl ?_
                      refine Ev.goto (q := 358) dX8_next_354 (by decide) ?_
                      refine istore_n_3 (q := 359) dX8_next_358 rfl rfl rfl ?_
                      refine Ev.aload_n (q := 360) dX8_next_359 rfl rfl ?_
                      refine Ev.iload_n (q := 361) dX8_next_360 rfl rfl ?_
                      refine Ev.if_ne (tgt := 368) (q := 364) dX8_next_361 (by decide) rfl (fun h81 => ?_) (fun h81 => ?_)
                      · skip
                        omega
                      · skip
                        refine Ev.iload_n (q := 365) dX8_next_364 rfl rfl ?_
                        refine Ev.if_eq (tgt := 372) (q := 368) dX8_next_365 (by decide) rfl (fun h82 => ?_) (fun h82 => ?_)
                        · skip
                          omega
                        · skip
                          refine Ev.iconst (q := 369) dX8_next_368 ki_3 rfl ?_
                          refine Ev.goto (q := 373) dX8_next_369 (by decide) ?_
                          refine pI (q := 376) dX8_next_373 gfX8_20 k22 rfl rfl ?_
                          refine rV dX8_next_376 rfl ?_
                          refine ⟨⟨?_, ?_, ?_, fun z => ?_⟩, hFs.up rfl⟩
                          · rw [up_eq]; unfold kcl sgnV; dsimp only; repeat (first | rfl | omega | split)
                          · rw [up_k _ _ (by decide)]; exact s4
                          · rw [up_k _ _ (by decide)]; exact s2
                          · have h3 := sgnV_rng (tx a)
                            have z9 : sgnV (tx a) = 23 := z
                            omega
                    · skip
                      refine Ev.iload_n (q := 348) dX8_next_347 rfl rfl ?_
                      refine Ev.bipush (q := 350) dX8_next_348 kb_41 rfl ?_
                      refine Ev.icmp_ne (tgt := 357) (q := 353) dX8_next_350 (by decide) rfl (fun h64 => ?_) (fun h64 => ?_)
                      · skip
                        refine Ev.iconst (q := 358) dX8_next_357 ki_0 rfl ?_
                        refine istore_n_3 (q := 359) dX8_next_358 rfl rfl rfl ?_
                        refine Ev.aload_n (q := 360) dX8_next_359 rfl rfl ?_
                        refine Ev.iload_n (q := 361) dX8_next_360 rfl rfl ?_
                        refine Ev.if_ne (tgt := 368) (q := 364) dX8_next_361 (by decide) rfl (fun h81 => ?_) (fun h81 => ?_)
                        · skip
                          omega
                        · skip
                          refine Ev.iload_n (q := 365) dX8_next_364 rfl rfl ?_
                          refine Ev.if_eq (tgt := 372) (q := 368) dX8_next_365 (by decide) rfl (fun h82 => ?_) (fun h82 => ?_)
                          · skip
                            refine Ev.iconst (q := 373) dX8_next_372 ki_4 rfl ?_
                            refine pI (q := 376) dX8_next_373 gfX8_20 k22 rfl rfl ?_
                            refine rV dX8_next_376 rfl ?_
                            refine ⟨⟨?_, ?_, ?_, fun z => ?_⟩, hFs.up rfl⟩
                            · rw [up_eq]; unfold kcl sgnV; dsimp only; repeat (first | rfl | omega | split)
                            · rw [up_k _ _ (by decide)]; exact s4
                            · rw [up_k _ _ (by decide)]; exact s2
                            · have h3 := sgnV_rng (tx a)
                              have z9 : sgnV (tx a) = 23 := z
                              omega
                          · skip
                            omega
                      · skip
                        refine Ev.iconst (q := 354) dX8_next_353 ki_1 rfl ?_
                        refine Ev.goto (q := 358) dX8_next_354 (by decide) ?_
                        refine istore_n_3 (q := 359) dX8_next_358 rfl rfl rfl ?_
                        refine Ev.aload_n (q := 360) dX8_next_359 rfl rfl ?_
                        refine Ev.iload_n (q := 361) dX8_next_360 rfl rfl ?_
                        refine Ev.if_ne (tgt := 368) (q := 364) dX8_next_361 (by decide) rfl (fun h81 => ?_) (fun h81 => ?_)
                        · skip
                          omega
                        · skip
                          refine Ev.iload_n (q := 365) dX8_next_364 rfl rfl ?_
                          refine Ev.if_eq (tgt := 372) (q := 368) dX8_next_365 (by decide) rfl (fun h82 => ?_) (fun h82 => ?_)
                          · skip
                            omega
                          · skip
                            refine Ev.iconst (q := 369) dX8_next_368 ki_3 rfl ?_
                            refine Ev.goto (q := 373) dX8_next_369 (by decide) ?_
                            refine pI (q := 376) dX8_next_373 gfX8_20 k22 rfl rfl ?_
                            refine rV dX8_next_376 rfl ?_
                            refine ⟨⟨?_, ?_, ?_, fun z => ?_⟩, hFs.up rfl⟩
                            · rw [up_eq]; unfold kcl sgnV; dsimp only; repeat (first | rfl | omega | split)
                            · rw [up_k _ _ (by decide)]; exact s4
                            · rw [up_k _ _ (by decide)]; exact s2
                            · have h3 := sgnV_rng (tx a)
                              have z9 : sgnV (tx a) = 23 := z
                              omega
              · skip
                refine Ev.iconst (q := 324) dX8_next_323 ki_1 rfl ?_
                refine Ev.goto (q := 328) dX8_next_324 (by decide) ?_
                refine istore_n_2 (q := 329) dX8_next_328 rfl rfl rfl ?_
                refine Ev.iload_n (q := 330) dX8_next_329 rfl rfl ?_
                refine Ev.bipush (q := 332) dX8_next_330 kb_59 rfl ?_
                refine Ev.icmp_eq (tgt := 353) (q := 335) dX8_next_332 (by decide) rfl (fun h61 => ?_) (fun h61 => ?_)
                · skip
                  refine Ev.iconst (q := 354) dX8_next_353 ki_1 rfl ?_
                  refine Ev.goto (q := 358) dX8_next_354 (by decide) ?_
                  refine istore_n_3 (q := 359) dX8_next_358 rfl rfl rfl ?_
                  refine Ev.aload_n (q := 360) dX8_next_359 rfl rfl ?_
                  refine Ev.iload_n (q := 361) dX8_next_360 rfl rfl ?_
                  refine Ev.if_ne (tgt := 368) (q := 364) dX8_next_361 (by decide) rfl (fun h81 => ?_) (fun h81 => ?_)
                  · skip
                    refine Ev.iconst (q := 369) dX8_next_368 ki_3 rfl ?_
                    refine Ev.goto (q := 373) dX8_next_369 (by decide) ?_
                    refine pI (q := 376) dX8_next_373 gfX8_20 k22 rfl rfl ?_
                    refine rV dX8_next_376 rfl ?_
                    refine ⟨⟨?_, ?_, ?_, fun z => ?_⟩, hFs.up rfl⟩
                    · rw [up_eq]; unfold kcl sgnV; dsimp only; repeat (first | rfl | omega | split)
                    · rw [up_k _ _ (by decide)]; exact s4
                    · rw [up_k _ _ (by decide)]; exact s2
                    · have h3 := sgnV_rng (tx a)
                      have z9 : sgnV (tx a) = 23 := z
                      omega
                  · skip
                    omega
                · skip
                  refine Ev.iload_n (q := 336) dX8_next_335 rfl rfl ?_
                  refine Ev.bipush (q := 338) dX8_next_336 kb_58 rfl ?_
                  refine Ev.icmp_eq (tgt := 353) (q := 341) dX8_next_338 (by decide) rfl (fun h62 => ?_) (fun h62 => ?_)
                  · skip
                    refine Ev.iconst (q := 354) dX8_next_353 ki_1 rfl ?_
                    refine Ev.goto (q := 358) dX8_next_354 (by decide) ?_
                    refine istore_n_3 (q := 359) dX8_next_358 rfl rfl rfl ?_
                    refine Ev.aload_n (q := 360) dX8_next_359 rfl rfl ?_
                    refine Ev.iload_n (q := 361) dX8_next_360 rfl rfl ?_
                    refine Ev.if_ne (tgt := 368) (q := 364) dX8_next_361 (by decide) rfl (fun h81 => ?_) (fun h81 => ?_)
                    · skip
                      refine Ev.iconst (q := 369) dX8_next_368 ki_3 rfl ?_
                      refine Ev.goto (q := 373) dX8_next_369 (by decide) ?_
                      refine pI (q := 376) dX8_next_373 gfX8_20 k22 rfl rfl ?_
                      refine rV dX8_next_376 rfl ?_
                      refine ⟨⟨?_, ?_, ?_, fun z => ?_⟩, hFs.up rfl⟩
                      · rw [up_eq]; unfold kcl sgnV; dsimp only; repeat (first | rfl | omega | split)
                      · rw [up_k _ _ (by decide)]; exact s4
                      · rw [up_k _ _ (by decide)]; exact s2
                      · have h3 := sgnV_rng (tx a)
                        have z9 : sgnV (tx a) = 23 := z
                        omega
                    · skip
                      omega
                  · skip
                    refine Ev.iload_n (q := 342) dX8_next_341 rfl rfl ?_
                    refine Ev.bipush (q := 344) dX8_next_342 kb_40 rfl ?_
                    refine Ev.icmp_eq (tgt := 353) (q := 347) dX8_next_344 (by decide) rfl (fun h63 => ?_) (fun h63 => ?_)
                    · skip
                      refine Ev.iconst (q := 354) dX8_next_353 ki_1 rfl ?_
                      refine Ev.goto (q := 358) dX8_next_354 (by decide) ?_
                      refine istore_n_3 (q := 359) dX8_next_358 rfl rfl rfl ?_
                      refine Ev.aload_n (q := 360) dX8_next_359 rfl rfl ?_
                      refine Ev.iload_n (q := 361) dX8_next_360 rfl rfl ?_
                      refine Ev.if_ne (tgt := 368) (q := 364) dX8_next_361 (by decide) rfl (fun h81 => ?_) (fun h81 => ?_)
                      · skip
                        refine Ev.iconst (q := 369) dX8_next_368 ki_3 rfl ?_
                        refine Ev.goto (q := 373) dX8_next_369 (by decide) ?_
                        refine pI (q := 376) dX8_next_373 gfX8_20 k22 rfl rfl ?_
                        refine rV dX8_next_376 rfl ?_
                        refine ⟨⟨?_, ?_, ?_, fun z => ?_⟩, hFs.up rfl⟩
                        · rw [up_eq]; unfold kcl sgnV; dsimp only; repeat (first | rfl | omega | split)
                        · rw [up_k _ _ (by decide)]; exact s4
                        · rw [up_k _ _ (by decide)]; exact s2
                        · have h3 := sgnV_rng (tx a)
                          have z9 : sgnV (tx a) = 23 := z
                          omega
                      · skip
                        omega
                    · skip
                      refine Ev.iload_n (q := 348) dX8_next_347 rfl rfl ?_
                      refine Ev.bipush (q := 350) dX8_next_348 kb_41 rfl ?_
                      refine Ev.icmp_ne (tgt := 357) (q := 353) dX8_next_350 (by decide) rfl (fun h64 => ?_) (fun h64 => ?_)
                      · skip
                        refine Ev.iconst (q := 358) dX8_next_357 ki_0 rfl ?_
                        refine istore_n_3 (q := 359) dX8_next_358 rfl rfl rfl ?_
                        refine Ev.aload_n (q := 360) dX8_next_359 rfl rfl ?_
                        refine Ev.iload_n (q := 361) dX8_next_360 rfl rfl ?_
                        refine Ev.if_ne (tgt := 368) (q := 364) dX8_next_361 (by decide) rfl (fun h81 => ?_) (fun h81 => ?_)
                        · skip
                          refine Ev.iconst (q := 369) dX8_next_368 ki_3 rfl ?_
                          refine Ev.goto (q := 373) dX8_next_369 (by decide) ?_
                          refine pI (q := 376) dX8_next_373 gfX8_20 k22 rfl rfl ?_
                          refine rV dX8_next_376 rfl ?_
                          refine ⟨⟨?_, ?_, ?_, fun z => ?_⟩, hFs.up rfl⟩
                          · rw [up_eq]; unfold kcl sgnV; dsimp only; repeat (first | rfl | omega | split)
                          · rw [up_k _ _ (by decide)]; exact s4
                          · rw [up_k _ _ (by decide)]; exact s2
                          · have h3 := sgnV_rng (tx a)
                            have z9 : sgnV (tx a) = 23 := z
                            omega
                        · skip
                          omega
                      · skip
                        refine Ev.iconst (q := 354) dX8_next_353 ki_1 rfl ?_
                        refine Ev.goto (q := 358) dX8_next_354 (by decide) ?_
                        refine istore_n_3 (q := 359) dX8_next_358 rfl rfl rfl ?_
                        refine Ev.aload_n (q := 360) dX8_next_359 rfl rfl ?_
                        refine Ev.iload_n (q := 361) dX8_next_360 rfl rfl ?_
                        refine Ev.if_ne (tgt := 368) (q := 364) dX8_next_361 (by decide) rfl (fun h81 => ?_) (fun h81 => ?_)
                        · skip
                          refine Ev.iconst (q := 369) dX8_next_368 ki_3 rfl ?_
                          refine Ev.goto (q := 373) dX8_next_369 (by decide) ?_
                          refine pI (q := 376) dX8_next_373 gfX8_20 k22 rfl rfl ?_
                          refine rV dX8_next_376 rfl ?_
                          refine ⟨⟨?_, ?_, ?_, fun z => ?_⟩, hFs.up rfl⟩
                          · rw [up_eq]; unfold kcl sgnV; dsimp only; repeat (first | rfl | omega | split)
                          · rw [up_k _ _ (by decide)]; exact s4
                          · rw [up_k _ _ (by decide)]; exact s2
                          · have h3 := sgnV_rng (tx a)
                            have z9 : sgnV (tx a) = 23 := z
                            omega
                        · skip
                          omega
        · skip
          refine Ev.aload_n (q := 184) dX8_next_183 rfl rfl ?_
          refine Ev.iload_n (q := 185) dX8_next_184 rfl rfl ?_
          refine Ev.bipush (q := 187) dX8_next_185 kb_48 rfl ?_
          refine Ev.isub (q := 188) dX8_next_187 rfl ?_
          rw [w32_of (by omega) (by omega)]
          refine pI (q := 191) dX8_next_188 gfX8_26 k22 rfl rfl ?_
          have hdg : isDg (tx a) = true := decide_eq_true (show 48 ≤ tx a ∧ tx a ≤ 57 by omega)
          rw [if_pos hdg] at htok
          rw [htok]
          have hrl := rE_le isDg tx N a
          have hrl2 := hrl.2 (by omega)
          refine lc_nxD (m0 := m) tx N hN hC a b (fun M9 hF9 j2 j4 j5 => ?_) (N - (a + 1)) (a + 1) _ (by omega) (by omega) (hFs.up rfl) (by rw [up_k _ _ (by decide)]; exact s2) (by rw [up_k _ _ (by decide)]; exact s4) (by rw [up_eq, show min 3 (a + 1 - a) = 1 by omega]; show _ = 10 * 0 + tx (a + 0) - 48; rw [Nat.add_zero]; omega) (fun i h6 h7 => by rw [show i = a by omega]; exact hdg) (rE_in hlt hdg)
          refine Ev.aload_n (q := 281) dX8_next_280 rfl rfl ?_
          refine Ev.aload_n (q := 282) dX8_next_281 rfl rfl ?_
          refine gI (q := 285) dX8_next_282 gfX8_17 k22 rfl rfl ?_
          rw [j2]
          refine Ev.aload_n (q := 286) dX8_next_285 rfl rfl ?_
          refine gI (q := 289) dX8_next_286 gfX8_23 k22 rfl rfl ?_
          refine Ev.isub (q := 290) dX8_next_289 rfl ?_
          rw [j4, w32_of (by omega) (by omega)]
          refine Ev.iconst (q := 291) dX8_next_290 ki_3 rfl ?_
          refine Ev.icmp_le (tgt := 298) (q := 294) dX8_next_291 (by decide) rfl (fun h1 => ?_) (fun h1 => ?_)
          · skip
            refine Ev.iconst (q := 299) dX8_next_298 ki_2 rfl ?_
            refine pI (q := 302) dX8_next_299 gfX8_20 k22 rfl rfl ?_
            refine Ev.goto (q := 376) dX8_next_302 (by decide) ?_
            refine rV dX8_next_376 rfl ?_
            rw [if_neg (by omega)]
            refine ⟨⟨?_, ?_, ?_, fun z => ?_⟩, hF9.up rfl⟩
            · rw [up_eq]; rfl
            · rw [up_k _ _ (by decide)]; exact j4
            · rw [up_k _ _ (by decide)]; exact j2
            · rw [up_k _ _ (by decide)]; exact j5
          · skip
            refine Ev.iconst (q := 295) dX8_next_294 ki_4 rfl ?_
            refine Ev.goto (q := 299) dX8_next_295 (by decide) ?_
            refine pI (q := 302) dX8_next_299 gfX8_20 k22 rfl rfl ?_
            refine Ev.goto (q := 376) dX8_next_302 (by decide) ?_
            refine rV dX8_next_376 rfl ?_
            rw [if_pos (by omega)]
            refine ⟨⟨?_, ?_, ?_, fun z => ?_⟩, hF9.up rfl⟩
            · rw [up_eq]; rfl
            · rw [up_k _ _ (by decide)]; exact j4
            · rw [up_k _ _ (by decide)]; exact j2
            · exact absurd z (by show ¬ (25 : Int) = 23; decide)
    · skip
      refine Ev.iload_n (q := 106) dX8_next_105 rfl rfl ?_
      refine Ev.bipush (q := 108) dX8_next_106 kb_122 rfl ?_
      refine Ev.icmp_gt (tgt := 171) (q := 111) dX8_next_108 (by decide) rfl (fun h22 => ?_) (fun h22 => ?_)
      · skip
        have hsm : ¬ isSm (tx a) = true := fun z => by have := of_decide_eq_true z; omega
        rw [if_neg hsm] at htok
        refine Ev.iload_n (q := 172) dX8_next_171 rfl rfl ?_
        refine Ev.bipush (q := 174) dX8_next_172 kb_48 rfl ?_
        refine Ev.icmp_lt (tgt := 305) (q := 177) dX8_next_174 (by decide) rfl (fun h31 => ?_) (fun h31 => ?_)
        · skip
          have hdg : ¬ isDg (tx a) = true := fun z => by have := of_decide_eq_true z; omega
          rw [if_neg hdg] at htok
          rw [htok]
          refine Ev.iload_n (q := 306) dX8_next_305 rfl rfl ?_
          refine Ev.bipush (q := 308) dX8_next_306 kb_43 rfl ?_
          refine Ev.icmp_eq (tgt := 323) (q := 311) dX8_next_308 (by decide) rfl (fun h41 => ?_) (fun h41 => ?_)
          · skip
            refine Ev.iconst (q := 324) dX8_next_323 ki_1 rfl ?_
            refine Ev.goto (q := 328) dX8_next_324 (by decide) ?_
            refine istore_n_2 (q := 329) dX8_next_328 rfl rfl rfl ?_
            refine Ev.iload_n (q := 330) dX8_next_329 rfl rfl ?_
            refine Ev.bipush (q := 332) dX8_next_330 kb_59 rfl ?_
            refine Ev.icmp_eq (tgt := 353) (q := 335) dX8_next_332 (by decide) rfl (fun h61 => ?_) (fun h61 => ?_)
            · skip
              refine Ev.iconst (q := 354) dX8_next_353 ki_1 rfl ?_
              refine Ev.goto (q := 358) dX8_next_354 (by decide) ?_
              refine istore_n_3 (q := 359) dX8_next_358 rfl rfl rfl ?_
              refine Ev.aload_n (q := 360) dX8_next_359 rfl rfl ?_
              refine Ev.iload_n (q := 361) dX8_next_360 rfl rfl ?_
              refine Ev.if_ne (tgt := 368) (q := 364) dX8_next_361 (by decide) rfl (fun h81 => ?_) (fun h81 => ?_)
              · skip
                refine Ev.iconst (q := 369) dX8_next_368 ki_3 rfl ?_
                refine Ev.goto (q := 373) dX8_next_369 (by decide) ?_
                refine pI (q := 376) dX8_next_373 gfX8_20 k22 rfl rfl ?_
                refine rV dX8_next_376 rfl ?_
                refine ⟨⟨?_, ?_, ?_, fun z => ?_⟩, hFs.up rfl⟩
                · rw [up_eq]; unfold kcl sgnV; dsimp only; repeat (first | rfl | omega | split)
                · rw [up_k _ _ (by decide)]; exact s4
                · rw [up_k _ _ (by decide)]; exact s2
                · have h3 := sgnV_rng (tx a)
                  have z9 : sgnV (tx a) = 23 := z
                  omega
              · skip
                omega
            · skip
              refine Ev.iload_n (q := 336) dX8_next_335 rfl rfl ?_
              refine Ev.bipush (q := 338) dX8_next_336 kb_58 rfl ?_
              refine Ev.icmp_eq (tgt := 353) (q := 341) dX8_next_338 (by decide) rfl (fun h62 => ?_) (fun h62 => ?_)
              · skip
                refine Ev.iconst (q := 354) dX8_next_353 ki_1 rfl ?_
                refine Ev.goto (q := 358) dX8_next_354 (by decide) ?_
                refine istore_n_3 (q := 359) dX8_next_358 rfl rfl rfl ?_
                refine Ev.aload_n (q := 360) dX8_next_359 rfl rfl ?_
                refine Ev.iload_n (q := 361) dX8_next_360 rfl rfl ?_
                refine Ev.if_ne (tgt := 368) (q := 364) dX8_next_361 (by decide) rfl (fun h81 => ?_) (fun h81 => ?_)
                · skip
                  refine Ev.iconst (q := 369) dX8_next_368 ki_3 rfl ?_
                  refine Ev.goto (q := 373) dX8_next_369 (by decide) ?_
                  refine pI (q := 376) dX8_next_373 gfX8_20 k22 rfl rfl ?_
                  refine rV dX8_next_376 rfl ?_
                  refine ⟨⟨?_, ?_, ?_, fun z => ?_⟩, hFs.up rfl⟩
                  · rw [up_eq]; unfold kcl sgnV; dsimp only; repeat (first | rfl | omega | split)
                  · rw [up_k _ _ (by decide)]; exact s4
                  · rw [up_k _ _ (by decide)]; exact s2
                  · have h3 := sgnV_rng (tx a)
                    have z9 : sgnV (tx a) = 23 := z
                    omega
                · skip
                  omega
              · skip
                refine Ev.iload_n (q := 342) dX8_next_341 rfl rfl ?_
                refine Ev.bipush (q := 344) dX8_next_342 kb_40 rfl ?_
                refine Ev.icmp_eq (tgt := 353) (q := 347) dX8_next_344 (by decide) rfl (fun h63 => ?_) (fun h63 => ?_)
                · skip
                  refine Ev.iconst (q := 354) dX8_next_353 ki_1 rfl ?_
                  refine Ev.goto (q := 358) dX8_next_354 (by decide) ?_
                  refine istore_n_3 (q := 359) dX8_next_358 rfl rfl rfl ?_
                  refine Ev.aload_n (q := 360) dX8_next_359 rfl rfl ?_
                  refine Ev.iload_n (q := 361) dX8_next_360 rfl rfl ?_
                  refine Ev.if_ne (tgt := 368) (q := 364) dX8_next_361 (by decide) rfl (fun h81 => ?_) (fun h81 => ?_)
                  · skip
                    refine Ev.iconst (q := 369) dX8_next_368 ki_3 rfl ?_
                    refine Ev.goto (q := 373) dX8_next_369 (by decide) ?_
                    refine pI (q := 376) dX8_next_373 gfX8_20 k22 rfl rfl ?_
                    refine rV dX8_next_376 rfl ?_
                    refine ⟨⟨?_, ?_, ?_, fun z => ?_⟩, hFs.up rfl⟩
                    · rw [up_eq]; unfold kcl sgnV; dsimp only; repeat (first | rfl | omega | split)
                    · rw [up_k _ _ (by decide)]; exact s4
                    · rw [up_k _ _ (by decide)]; exact s2
                    · have h3 := sgnV_rng (tx a)
                      have z9 : sgnV (tx a) = 23 := z
                      omega
                  · skip
                    omega
                · skip
                  refine Ev.iload_n (q := 348) dX8_next_347 rfl rfl ?_
                  refine Ev.bipush (q := 350) dX8_next_348 kb_41 rfl ?_
                  refine Ev.icmp_ne (tgt := 357) (q := 353) dX8_next_350 (by decide) rfl (fun h64 => ?_) (fun h64 => ?_)
                  · skip
                    refine Ev.iconst (q := 358) dX8_next_357 ki_0 rfl ?_
                    refine istore_n_3 (q := 359) dX8_next_358 rfl rfl rfl ?_
                    refine Ev.aload_n (q := 360) dX8_next_359 rfl rfl ?_
                    refine Ev.iload_n (q := 361) dX8_next_360 rfl rfl ?_
                    refine Ev.if_ne (tgt := 368) (q := 364) dX8_next_361 (by decide) rfl (fun h81 => ?_) (fun h81 => ?_)
                    · skip
                      refine Ev.iconst (q := 369) dX8_next_368 ki_3 rfl ?_
                      refine Ev.goto (q := 373) dX8_next_369 (by decide) ?_
                      refine pI (q := 376) dX8_next_373 gfX8_20 k22 rfl rfl ?_
                      refine rV dX8_next_376 rfl ?_
                      refine ⟨⟨?_, ?_, ?_, fun z => ?_⟩, hFs.up rfl⟩
                      · rw [up_eq]; unfold kcl sgnV; dsimp only; repeat (first | rfl | omega | split)
                      · rw [up_k _ _ (by decide)]; exact s4
                      · rw [up_k _ _ (by decide)]; exact s2
                      · have h3 := sgnV_rng (tx a)
                        have z9 : sgnV (tx a) = 23 := z
                        omega
                    · skip
                      omega
                  · skip
                    refine Ev.iconst (q := 354) dX8_next_353 ki_1 rfl ?_
                    refine Ev.goto (q := 358) dX8_next_354 (by decide) ?_
                    refine istore_n_3 (q := 359) dX8_next_358 rfl rfl rfl ?_
                    refine Ev.aload_n (q := 360) dX8_next_359 rfl rfl ?_
                    refine Ev.iload_n (q := 361) dX8_next_360 rfl rfl ?_
                    refine Ev.if_ne (tgt := 368) (q := 364) dX8_next_361 (by decide) rfl (fun h81 => ?_) (fun h81 => ?_)
                    · skip
                      refine Ev.iconst (q := 369) dX8_next_368 ki_3 rfl ?_
                      refine Ev.goto (q := 373) dX8_next_369 (by decide) ?_
                      refine pI (q := 376) dX8_next_373 gfX8_20 k22 rfl rfl ?_
                      refine rV dX8_next_376 rfl ?_
                      refine ⟨⟨?_, ?_, ?_, fun z => ?_⟩, hFs.up rfl⟩
                      · rw [up_eq]; unfold kcl sgnV; dsimp only; repeat (first | rfl | omega | split)
                      · rw [up_k _ _ (by decide)]; exact s4
                      · rw [up_k _ _ (by decide)]; exact s2
                      · have h3 := sgnV_rng (tx a)
                        have z9 : sgnV (tx a) = 23 := z
                        omega
                    · skip
                      omega
          · skip
            refine Ev.iload_n (q := 312) dX8_next_311 rfl rfl ?_
            refine Ev.bipush (q := 314) dX8_next_312 kb_45 rfl ?_
            refine Ev.icmp_eq (tgt := 323) (q := 317) dX8_next_314 (by decide) rfl (fun h42 => ?_) (fun h42 => ?_)
            · skip
              refine Ev.iconst (q := 324) dX8_next_323 ki_1 rfl ?_
              refine Ev.goto (q := 328) dX8_next_324 (by decide) ?_
              refine istore_n_2 (q := 329) dX8_next_328 rfl rfl rfl ?_
              refine Ev.iload_n (q := 330) dX8_next_329 rfl rfl ?_
              refine Ev.bipush (q := 332) dX8_next_330 kb_59 rfl ?_
              refine Ev.icmp_eq (tgt := 353) (q := 335) dX8_next_332 (by decide) rfl (fun h61 => ?_) (fun h61 => ?_)
              · skip
                refine Ev.iconst (q := 354) dX8_next_353 ki_1 rfl ?_
                refine Ev.goto (q := 358) dX8_next_354 (by decide) ?_
                refine istore_n_3 (q := 359) dX8_next_358 rfl rfl rfl ?_
                refine Ev.aload_n (q := 360) dX8_next_359 rfl rfl ?_
                refine Ev.iload_n (q := 361) dX8_next_360 rfl rfl ?_
                refine Ev.if_ne (tgt := 368) (q := 364) dX8_next_361 (by decide) rfl (fun h81 => ?_) (fun h81 => ?_)
                · skip
                  refine Ev.iconst (q := 369) dX8_next_368 ki_3 rfl ?_
                  refine Ev.goto (q := 373) dX8_next_369 (by decide) ?_
                  refine pI (q := 376) dX8_next_373 gfX8_20 k22 rfl rfl ?_
                  refine rV dX8_next_376 rfl ?_
                  refine ⟨⟨?_, ?_, ?_, fun z => ?_⟩, hFs.up rfl⟩
                  · rw [up_eq]; unfold kcl sgnV; dsimp only; repeat (first | rfl | omega | split)
                  · rw [up_k _ _ (by decide)]; exact s4
                  · rw [up_k _ _ (by decide)]; exact s2
                  · have h3 := sgnV_rng (tx a)
                    have z9 : sgnV (tx a) = 23 := z
                    omega
                · skip
                  omega
              · skip
                refine Ev.iload_n (q := 336) dX8_next_335 rfl rfl ?_
                refine Ev.bipush (q := 338) dX8_next_336 kb_58 rfl ?_
                refine Ev.icmp_eq (tgt := 353) (q := 341) dX8_next_338 (by decide) rfl (fun h62 => ?_) (fun h62 => ?_)
                · skip
                  refine Ev.iconst (q := 354) dX8_next_353 ki_1 rfl ?_
                  refine Ev.goto (q := 358) dX8_next_354 (by decide) ?_
                  refine istore_n_3 (q := 359) dX8_next_358 rfl rfl rfl ?_
                  refine Ev.aload_n (q := 360) dX8_next_359 rfl rfl ?_
                  refine Ev.iload_n (q := 361) dX8_next_360 rfl rfl ?_
                  refine Ev.if_ne (tgt := 368) (q := 364) dX8_next_361 (by decide) rfl (fun h81 => ?_) (fun h81 => ?_)
                  · skip
                    refine Ev.iconst (q := 369) dX8_next_368 ki_3 rfl ?_
                    refine Ev.goto (q := 373) dX8_next_369 (by decide) ?_
                    refine pI (q := 376) dX8_next_373 gfX8_20 k22 rfl rfl ?_
                    refine rV dX8_next_376 rfl ?_
                    refine ⟨⟨?_, ?_, ?_, fun z => ?_⟩, hFs.up rfl⟩
                    · rw [up_eq]; unfold kcl sgnV; dsimp only; repeat (first | rfl | omega | split)
                    · rw [up_k _ _ (by decide)]; exact s4
                    · rw [up_k _ _ (by decide)]; exact s2
                    · have h3 := sgnV_rng (tx a)
                      have z9 : sgnV (tx a) = 23 := z
                      omega
                  · skip
                    omega
                · skip
                  refine Ev.iload_n (q := 342) dX8_next_341 rfl rfl ?_
                  refine Ev.bipush (q := 344) dX8_next_342 kb_40 rfl ?_
                  refine Ev.icmp_eq (tgt := 353) (q := 347) dX8_next_344 (by decide) rfl (fun h63 => ?_) (fun h63 => ?_)
                  · skip
                    refine Ev.iconst (q := 354) dX8_next_353 ki_1 rfl ?_
                    refine Ev.goto (q := 358) dX8_next_354 (by decide) ?_
                    refine istore_n_3 (q := 359) dX8_next_358 rfl rfl rfl ?_
                    refine Ev.aload_n (q := 360) dX8_next_359 rfl rfl ?_
                    refine Ev.iload_n (q := 361) dX8_next_360 rfl rfl ?_
                    refine Ev.if_ne (tgt := 368) (q := 364) dX8_next_361 (by decide) rfl (fun h81 => ?_) (fun h81 => ?_)
                    · skip
                      refine Ev.iconst (q := 369) dX8_next_368 ki_3 rfl ?_
                      refine Ev.goto (q := 373) dX8_next_369 (by decide) ?_
                      refine pI (q := 376) dX8_next_373 gfX8_20 k22 rfl rfl ?_
                      refine rV dX8_next_376 rfl ?_
                      refine ⟨⟨?_, ?_, ?_, fun z => ?_⟩, hFs.up rfl⟩
                      · rw [up_eq]; unfold kcl sgnV; dsimp only; repeat (first | rfl | omega | split)
                      · rw [up_k _ _ (by decide)]; exact s4
                      · rw [up_k _ _ (by decide)]; exact s2
                      · have h3 := sgnV_rng (tx a)
                        have z9 : sgnV (tx a) = 23 := z
                        omega
                    · skip
                      omega
                  · skip
                    refine Ev.iload_n (q := 348) dX8_next_347 rfl rfl ?_
                    refine Ev.bipush (q := 350) dX8_next_348 kb_41 rfl ?_
                    refine Ev.icmp_ne (tgt := 357) (q := 353) dX8_next_350 (by decide) rfl (fun h64 => ?_) (fun h64 => ?_)
                    · skip
                      refine Ev.iconst (q := 358) dX8_next_357 ki_0 rfl ?_
                      refine istore_n_3 (q := 359) dX8_next_358 rfl rfl rfl ?_
                      refine Ev.aload_n (q := 360) dX8_next_359 rfl rfl ?_
                      refine Ev.iload_n (q := 361) dX8_next_360 rfl rfl ?_
                      refine Ev.if_ne (tgt := 368) (q := 364) dX8_next_361 (by decide) rfl (fun h81 => ?_) (fun h81 => ?_)
                      · skip
                        refine Ev.iconst (q := 369) dX8_next_368 ki_3 rfl ?_
                        refine Ev.goto (q := 373) dX8_next_369 (by decide) ?_
                        refine pI (q := 376) dX8_next_373 gfX8_20 k22 rfl rfl ?_
                        refine rV dX8_next_376 rfl ?_
                        refine ⟨⟨?_, ?_, ?_, fun z => ?_⟩, hFs.up rfl⟩
                        · rw [up_eq]; unfold kcl sgnV; dsimp only; repeat (first | rfl | omega | split)
                        · rw [up_k _ _ (by decide)]; exact s4
                        · rw [up_k _ _ (by decide)]; exact s2
                        · have h3 := sgnV_rng (tx a)
                          have z9 : sgnV (tx a) = 23 := z
                          omega
                      · skip
                        omega
                    · skip
                      refine Ev.iconst (q := 354) dX8_next_353 ki_1 rfl ?_
                      refine Ev.goto (q := 358) dX8_next_354 (by decide) ?_
                      refine istore_n_3 (q := 359) dX8_next_358 rfl rfl rfl ?_
                      refine Ev.aload_n (q := 360) dX8_next_359 rfl rfl ?_
                      refine Ev.iload_n (q := 361) dX8_next_360 rfl rfl ?_
                      refine Ev.if_ne (tgt := 368) (q := 364) dX8_next_361 (by decide) rfl (fun h81 => ?_) (fun h81 => ?_)
                      · skip
                        refine Ev.iconst (q := 369) dX8_next_368 ki_3 rfl ?_
                        refine Ev.goto (q := 373) dX8_next_369 (by decide) ?_
                        refine pI (q := 376) dX8_next_373 gfX8_20 k22 rfl rfl ?_
                        refine rV dX8_next_376 rfl ?_
                        refine ⟨⟨?_, ?_, ?_, fun z => ?_⟩, hFs.up rfl⟩
                        · rw [up_eq]; unfold kcl sgnV; dsimp only; repeat (first | rfl | omega | split)
                        · rw [up_k _ _ (by decide)]; exact s4
                        · rw [up_k _ _ (by decide)]; exact s2
                        · have h3 := sgnV_rng (tx a)
                          have z9 : sgnV (tx a) = 23 := z
                          omega
                      · skip
                        omega
            · skip
              refine Ev.iload_n (q := 318) dX8_next_317 rfl rfl ?_
              refine Ev.bipush (q := 320) dX8_next_318 kb_42 rfl ?_
              refine Ev.icmp_ne (tgt := 327) (q := 323) dX8_next_320 (by decide) rfl (fun h43 => ?_) (fun h43 => ?_)
              · skip
                refine Ev.iconst (q := 328) dX8_next_327 ki_0 rfl ?_
                refine istore_n_2 (q := 329) dX8_next_328 rfl rfl rfl ?_
                refine Ev.iload_n (q := 330) dX8_next_329 rfl rfl ?_
                refine Ev.bipush (q := 332) dX8_next_330 kb_59 rfl ?_
                refine Ev.icmp_eq (tgt := 353) (q := 335) dX8_next_332 (by decide) rfl (fun h61 => ?_) (fun h61 => ?_)
                · skip
                  refine Ev.iconst (q := 354) dX8_next_353 ki_1 rfl ?_
                  refine Ev.goto (q := 358) dX8_next_354 (by decide) ?_
                  refine istore_n_3 (q := 359) dX8_next_358 rfl rfl rfl ?_
                  refine Ev.aload_n (q := 360) dX8_next_359 rfl rfl ?_
                  refine Ev.iload_n (q := 361) dX8_next_360 rfl rfl ?_
                  refine Ev.if_ne (tgt := 368) (q := 364) dX8_next_361 (by decide) rfl (fun h81 => ?_) (fun h81 => ?_)
                  · skip
                    omega
                  · skip
                    refine Ev.iload_n (q := 365) dX8_next_364 rfl rfl ?_
                    refine Ev.if_eq (tgt := 372) (q := 368) dX8_next_365 (by decide) rfl (fun h82 => ?_) (fun h82 => ?_)
                    · skip
                      omega
                    · skip
                      refine Ev.iconst (q := 369) dX8_next_368 ki_3 rfl ?_
                      refine Ev.goto (q := 373) dX8_next_369 (by decide) ?_
                      refine pI (q := 376) dX8_next_373 gfX8_20 k22 rfl rfl ?_
                      refine rV dX8_next_376 rfl ?_
                      refine ⟨⟨?_, ?_, ?_, fun z => ?_⟩, hFs.up rfl⟩
                      · rw [up_eq]; unfold kcl sgnV; dsimp only; repeat (first | rfl | omega | split)
                      · rw [up_k _ _ (by decide)]; exact s4
                      · rw [up_k _ _ (by decide)]; exact s2
                      · have h3 := sgnV_rng (tx a)
                        have z9 : sgnV (tx a) = 23 := z
                        omega
                · skip
                  refine Ev.iload_n (q := 336) dX8_next_335 rfl rfl ?_
                  refine Ev.bipush (q := 338) dX8_next_336 kb_58 rfl ?_
                  refine Ev.icmp_eq (tgt := 353) (q := 341) dX8_next_338 (by decide) rfl (fun h62 => ?_) (fun h62 => ?_)
                  · skip
                    refine Ev.iconst (q := 354) dX8_next_353 ki_1 rfl ?_
                    refine Ev.goto (q := 358) dX8_next_354 (by decide) ?_
                    refine istore_n_3 (q := 359) dX8_next_358 rfl rfl rfl ?_
                    refine Ev.aload_n (q := 360) dX8_next_359 rfl rfl ?_
                    refine Ev.iload_n (q := 361) dX8_next_360 rfl rfl ?_
                    refine Ev.if_ne (tgt := 368) (q := 364) dX8_next_361 (by decide) rfl (fun h81 => ?_) (fun h81 => ?_)
                    · skip
                      omega
                    · skip
                      refine Ev.iload_n (q := 365) dX8_next_364 rfl rfl ?_
                      refine Ev.if_eq (tgt := 372) (q := 368) dX8_next_365 (by decide) rfl (fun h82 => ?_) (fun h82 => ?_)
                      · skip
                        omega
                      · skip
                        refine Ev.iconst (q := 369) dX8_next_368 ki_3 rfl ?_
                        refine Ev.goto (q := 373) dX8_next_369 (by decide) ?_
                        refine pI (q := 376) dX8_next_373 gfX8_20 k22 rfl rfl ?_
                        refine rV dX8_next_376 rfl ?_
                        refine ⟨⟨?_, ?_, ?_, fun z => ?_⟩, hFs.up rfl⟩
                        · rw [up_eq]; unfold kcl sgnV; dsimp only; repeat (first | rfl | omega | split)
                        · rw [up_k _ _ (by decide)]; exact s4
                        · rw [up_k _ _ (by decide)]; exact s2
                        · have h3 := sgnV_rng (tx a)
                          have z9 : sgnV (tx a) = 23 := z
                          omega
                  · skip
                    refine Ev.iload_n (q := 342) dX8_next_341 rfl rfl ?_
                    refine Ev.bipush (q := 344) dX8_next_342 kb_40 rfl ?_
                    refine Ev.icmp_eq (tgt := 353) (q := 347) dX8_next_344 (by decide) rfl (fun h63 => ?_) (fun h63 => ?_)
                    · skip
                      refine Ev.iconst (q := 354) dX8_next_353 ki_1 rfl ?_
                      refine Ev.goto (q := 358) dX8_next_354 (by decide) ?_
                      refine istore_n_3 (q := 359) dX8_next_358 rfl rfl rfl ?_
                      refine Ev.aload_n (q := 360) dX8_next_359 rfl rfl ?_
                      refine Ev.iload_n (q := 361) dX8_next_360 rfl rfl ?_
                      refine Ev.if_ne (tgt := 368) (q := 364) dX8_next_361 (by decide) rfl (fun h81 => ?_) (fun h81 => ?_)
                      · skip
                        omega
                      · skip
                        refine Ev.iload_n (q := 365) dX8_next_364 rfl rfl ?_
                        refine Ev.if_eq (tgt := 372) (q := 368) dX8_next_365 (by decide) rfl (fun h82 => ?_) (fun h82 => ?_)
                        · skip
                          omega
                        · skip
                          refine Ev.iconst (q := 369) dX8_next_368 ki_3 rfl ?_
                          refine Ev.goto (q := 373) dX8_next_369 (by decide) ?_
                          refine pI (q := 376) dX8_next_373 gfX8_20 k22 rfl rfl ?_
                          refine rV dX8_next_376 rfl ?_
                          refine ⟨⟨?_, ?_, ?_, fun z => ?_⟩, hFs.up rfl⟩
                          · rw [up_eq]; unfold kcl sgnV; dsimp only; repeat (first | rfl | omega | split)
                          · rw [up_k _ _ (by decide)]; exact s4
                          · rw [up_k _ _ (by decide)]; exact s2
                          · have h3 := sgnV_rng (tx a)
                            have z9 : sgnV (tx a) = 23 := z
                            omega
                    · skip
                      refine Ev.iload_n (q := 348) dX8_next_347 rfl rfl ?_
                      refine Ev.bipush (q := 350) dX8_next_348 kb_41 rfl ?_
                      refine Ev.icmp_ne (tgt := 357) (q := 353) dX8_next_350 (by decide) rfl (fun h64 => ?_) (fun h64 => ?_)
                      · skip
                        refine Ev.iconst (q := 358) dX8_next_357 ki_0 rfl ?_
                        refine istore_n_3 (q := 359) dX8_next_358 rfl rfl rfl ?_
                        refine Ev.aload_n (q := 360) dX8_next_359 rfl rfl ?_
                        refine Ev.iload_n (q := 361) dX8_next_360 rfl rfl ?_
                        refine Ev.if_ne (tgt := 368) (q := 364) dX8_next_361 (by decide) rfl (fun h81 => ?_) (fun h81 => ?_)
                        · skip
                          omega
                        · skip
                          refine Ev.iload_n (q := 365) dX8_next_364 rfl rfl ?_
                          refine Ev.if_eq (tgt := 372) (q := 368) dX8_next_365 (by decide) rfl (fun h82 => ?_) (fun h82 => ?_)
                          · skip
                            refine Ev.iconst (q := 373) dX8_next_372 ki_4 rfl ?_
                            refine pI (q := 376) dX8_next_373 gfX8_20 k22 rfl rfl ?_
                            refine rV dX8_next_376 rfl ?_
                            refine ⟨⟨?_, ?_, ?_, fun z => ?_⟩, hFs.up rfl⟩
                            · rw [up_eq]; unfold kcl sgnV; dsimp only; repeat (first | rfl | omega | split)
                            · rw [up_k _ _ (by decide)]; exact s4
                            · rw [up_k _ _ (by decide)]; exact s2
                            · have h3 := sgnV_rng (tx a)
                              have z9 : sgnV (tx a) = 23 := z
                              omega
                          · skip
                            omega
                      · skip
                        refine Ev.iconst (q := 354) dX8_next_353 ki_1 rfl ?_
                        refine Ev.goto (q := 358) dX8_next_354 (by decide) ?_
                        refine istore_n_3 (q := 359) dX8_next_358 rfl rfl rfl ?_
                        refine Ev.aload_n (q := 360) dX8_next_359 rfl rfl ?_
                        refine Ev.iload_n (q := 361) dX8_next_360 rfl rfl ?_
                        refine Ev.if_ne (tgt := 368) (q := 364) dX8_next_361 (by decide) rfl (fun h81 => ?_) (fun h81 => ?_)
                        · skip
                          omega
                        · skip
                          refine Ev.iload_n (q := 365) dX8_next_364 rfl rfl ?_
                          refine Ev.if_eq (tgt := 372) (q := 368) dX8_next_365 (by decide) rfl (fun h82 => ?_) (fun h82 => ?_)
                          · skip
                            omega
                          · skip
                            refine Ev.iconst (q := 369) dX8_next_368 ki_3 rfl ?_
                            refine Ev.goto (q := 373) dX8_next_369 (by decide) ?_
                            refine pI (q := 376) dX8_next_373 gfX8_20 k22 rfl rfl ?_
                            refine rV dX8_next_376 rfl ?_
                            refine ⟨⟨?_, ?_, ?_, fun z => ?_⟩, hFs.up rfl⟩
                            · rw [up_eq]; unfold kcl sgnV; dsimp only; repeat (first | rfl | omega | split)
                            · rw [up_k _ _ (by decide)]; exact s4
                            · rw [up_k _ _ (by decide)]; exact s2
                            · have h3 := sgnV_rng (tx a)
                              have z9 : sgnV (tx a) = 23 := z
                              omega
              · skip
                refine Ev.iconst (q := 324) dX8_next_323 ki_1 rfl ?_
                refine Ev.goto (q := 328) dX8_next_324 (by decide) ?_
                refine istore_n_2 (q := 329) dX8_next_328 rfl rfl rfl ?_
                refine Ev.iload_n (q := 330) dX8_next_329 rfl rfl ?_
                refine Ev.bipush (q := 332) dX8_next_330 kb_59 rfl ?_
                refine Ev.icmp_eq (tgt := 353) (q := 335) dX8_next_332 (by decide) rfl (fun h61 => ?_) (fun h61 => ?_)
                · skip
                  refine Ev.iconst (q := 354) dX8_next_353 ki_1 rfl ?_
                  refine Ev.goto (q := 358) dX8_next_354 (by decide) ?_
                  refine istore_n_3 (q := 359) dX8_next_358 rfl rfl rfl ?_
                  refine Ev.aload_n (q := 360) dX8_next_359 rfl rfl ?_
                  refine Ev.iload_n (q := 361) dX8_next_360 rfl rfl ?_
                  refine Ev.if_ne (tgt := 368) (q := 364) dX8_next_361 (by decide) rfl (fun h81 => ?_) (fun h81 => ?_)
                  · skip
                    refine Ev.iconst (q := 369) dX8_next_368 ki_3 rfl ?_
                    refine Ev.goto (q := 373) dX8_next_369 (by decide) ?_
                    refine pI (q := 376) dX8_next_373 gfX8_20 k22 rfl rfl ?_
                    refine rV dX8_next_376 rfl ?_
                    refine ⟨⟨?_, ?_, ?_, fun z => ?_⟩, hFs.up rfl⟩
                    · rw [up_eq]; unfold kcl sgnV; dsimp only; repeat (first | rfl | omega | split)
                    · rw [up_k _ _ (by decide)]; exact s4
                    · rw [up_k _ _ (by decide)]; exact s2
                    · have h3 := sgnV_rng (tx a)
                      have z9 : sgnV (tx a) = 23 := z
                      omega
                  · skip
                    omega
                · skip
                  refine Ev.iload_n (q := 336) dX8_next_335 rfl rfl ?_
                  refine Ev.bipush (q := 338) dX8_next_336 kb_58 rfl ?_
                  refine Ev.icmp_eq (tgt := 353) (q := 341) dX8_next_338 (by decide) rfl (fun h62 => ?_) (fun h62 => ?_)
                  · skip
                    refine Ev.iconst (q := 354) dX8_next_353 ki_1 rfl ?_
                    refine Ev.goto (q := 358) dX8_next_354 (by decide) ?_
                    refine istore_n_3 (q := 359) dX8_next_358 rfl rfl rfl ?_
                    refine Ev.aload_n (q := 360) dX8_next_359 rfl rfl ?_
                    refine Ev.iload_n (q := 361) dX8_next_360 rfl rfl ?_
                    refine Ev.if_ne (tgt := 368) (q := 364) dX8_next_361 (by decide) rfl (fun h81 => ?_) (fun h81 => ?_)
                    · skip
                      refine Ev.iconst (q := 369) dX8_next_368 ki_3 rfl ?_
                      refine Ev.goto (q := 373) dX8_next_369 (by decide) ?_
                      refine pI (q := 376) dX8_next_373 gfX8_20 k22 rfl rfl ?_
                      refine rV dX8_next_376 rfl ?_
                      refine ⟨⟨?_, ?_, ?_, fun z => ?_⟩, hFs.up rfl⟩
                      · rw [up_eq]; unfold kcl sgnV; dsimp only; repeat (first | rfl | omega | split)
                      · rw [up_k _ _ (by decide)]; exact s4
                      · rw [up_k _ _ (by decide)]; exact s2
                      · have h3 := sgnV_rng (tx a)
                        have z9 : sgnV (tx a) = 23 := z
                        omega
                    · skip
                      omega
                  · skip
                    refine Ev.iload_n (q := 342) dX8_next_341 rfl rfl ?_
                    refine Ev.bipush (q := 344) dX8_next_342 kb_40 rfl ?_
                    refine Ev.icmp_eq (tgt := 353) (q := 347) dX8_next_344 (by decide) rfl (fun h63 => ?_) (fun h63 => ?_)
                    · skip
                      refine Ev.iconst (q := 354) dX8_next_353 ki_1 rfl ?_
                      refine Ev.goto (q := 358) dX8_next_354 (by decide) ?_
                      refine istore_n_3 (q := 359) dX8_next_358 rfl rfl rfl ?_
                      refine Ev.aload_n (q := 360) dX8_next_359 rfl rfl ?_
                      refine Ev.iload_n (q := 361) dX8_next_360 rfl rfl ?_
                      refine Ev.if_ne (tgt := 368) (q := 364) dX8_next_361 (by decide) rfl (fun h81 => ?_) (fun h81 => ?_)
                      · skip
                        refine Ev.iconst (q := 369) dX8_next_368 ki_3 rfl ?_
                        refine Ev.goto (q := 373) dX8_next_369 (by decide) ?_
                        refine pI (q := 376) dX8_next_373 gfX8_20 k22 rfl rfl ?_
                        refine rV dX8_next_376 rfl ?_
                        refine ⟨⟨?_, ?_, ?_, fun z => ?_⟩, hFs.up rfl⟩
                        · rw [up_eq]; unfold kcl sgnV; dsimp only; repeat (first | rfl | omega | split)
                        · rw [up_k _ _ (by decide)]; exact s4
                        · rw [up_k _ _ (by decide)]; exact s2
                        · have h3 := sgnV_rng (tx a)
                          have z9 : sgnV (tx a) = 23 := z
                          omega
                      · skip
                        omega
                    · skip
                      refine Ev.iload_n (q := 348) dX8_next_347 rfl rfl ?_
                      refine Ev.bipush (q := 350) dX8_next_348 kb_41 rfl ?_
                      refine Ev.icmp_ne (tgt := 357) (q := 353) dX8_next_350 (by decide) rfl (fun h64 => ?_) (fun h64 => ?_)
                      · skip
                        refine Ev.iconst (q := 358) dX8_next_357 ki_0 rfl ?_
                        refine istore_n_3 (q := 359) dX8_next_358 rfl rfl rfl ?_
                        refine Ev.aload_n (q := 360) dX8_next_359 rfl rfl ?_
                        refine Ev.iload_n (q := 361) dX8_next_360 rfl rfl ?_
                        refine Ev.if_ne (tgt := 368) (q := 364) dX8_next_361 (by decide) rfl (fun h81 => ?_) (fun h81 => ?_)
                        · skip
                          refine Ev.iconst (q := 369) dX8_next_368 ki_3 rfl ?_
                          refine Ev.goto (q := 373) dX8_next_369 (by decide) ?_
                          refine pI (q := 376) dX8_next_373 gfX8_20 k22 rfl rfl ?_
                          refine rV dX8_next_376 rfl ?_
                          refine ⟨⟨?_, ?_, ?_, fun z => ?_⟩, hFs.up rfl⟩
                          · rw [up_eq]; unfold kcl sgnV; dsimp only; repeat (first | rfl | omega | split)
                          · rw [up_k _ _ (by decide)]; exact s4
                          · rw [up_k _ _ (by decide)]; exact s2
                          · have h3 := sgnV_rng (tx a)
                            have z9 : sgnV (tx a) = 23 := z
                            omega
                        · skip
                          omega
                      · skip
                        refine Ev.iconst (q := 354) dX8_next_353 ki_1 rfl ?_
                        refine Ev.goto (q := 358) dX8_next_354 (by decide) ?_
                        refine istore_n_3 (q := 359) dX8_next_358 rfl rfl rfl ?_
                        refine Ev.aload_n (q := 360) dX8_next_359 rfl rfl ?_
                        refine Ev.iload_n (q := 361) dX8_next_360 rfl rfl ?_
                        refine Ev.if_ne (tgt := 368) (q := 364) dX8_next_361 (by decide) rfl (fun h81 => ?_) (fun h81 => ?_)
                        · skip
                          refine Ev.iconst (q := 369) dX8_next_368 ki_3 rfl ?_
                          refine Ev.goto (q := 373) dX8_next_369 (by decide) ?_
                          refine pI (q := 376) dX8_next_373 gfX8_20 k22 rfl rfl ?_
                          refine rV dX8_next_376 rfl ?_
                          refine ⟨⟨?_, ?_, ?_, fun z => ?_⟩, hFs.up rfl⟩
                          · rw [up_eq]; unfold kcl sgnV; dsimp only; repeat (first | rfl | omega | split)
                          · rw [up_k _ _ (by decide)]; exact s4
                          · rw [up_k _ _ (by decide)]; exact s2
                          · have h3 := sgnV_rng (tx a)
                            have z9 : sgnV (tx a) = 23 := z
                            omega
                        · skip
                          omega
        · skip
          refine Ev.iload_n (q := 178) dX8_next_177 rfl rfl ?_
          refine Ev.bipush (q := 180) dX8_next_178 kb_57 rfl ?_
          refine Ev.icmp_gt (tgt := 305) (q := 183) dX8_next_180 (by decide) rfl (fun h32 => ?_) (fun h32 => ?_)
          · skip
            have hdg : ¬ isDg (tx a) = true := fun z => by have := of_decide_eq_true z; omega
            rw [if_neg hdg] at htok
            rw [htok]
            refine Ev.iload_n (q := 306) dX8_next_305 rfl rfl ?_
            refine Ev.bipush (q := 308) dX8_next_306 kb_43 rfl ?_
            refine Ev.icmp_eq (tgt := 323) (q := 311) dX8_next_308 (by decide) rfl (fun h41 => ?_) (fun h41 => ?_)
            · skip
              refine Ev.iconst (q := 324) dX8_next_323 ki_1 rfl ?_
              refine Ev.goto (q := 328) dX8_next_324 (by decide) ?_
              refine istore_n_2 (q := 329) dX8_next_328 rfl rfl rfl ?_
              refine Ev.iload_n (q := 330) dX8_next_329 rfl rfl ?_
              refine Ev.bipush (q := 332) dX8_next_330 kb_59 rfl ?_
              refine Ev.icmp_eq (tgt := 353) (q := 335) dX8_next_332 (by decide) rfl (fun h61 => ?_) (fun h61 => ?_)
              · skip
                refine Ev.iconst (q := 354) dX8_next_353 ki_1 rfl ?_
                refine Ev.goto (q := 358) dX8_next_354 (by decide) ?_
                refine istore_n_3 (q := 359) dX8_next_358 rfl rfl rfl ?_
                refine Ev.aload_n (q := 360) dX8_next_359 rfl rfl ?_
                refine Ev.iload_n (q := 361) dX8_next_360 rfl rfl ?_
                refine Ev.if_ne (tgt := 368) (q := 364) dX8_next_361 (by decide) rfl (fun h81 => ?_) (fun h81 => ?_)
                · skip
                  refine Ev.iconst (q := 369) dX8_next_368 ki_3 rfl ?_
                  refine Ev.goto (q := 373) dX8_next_369 (by decide) ?_
                  refine pI (q := 376) dX8_next_373 gfX8_20 k22 rfl rfl ?_
                  refine rV dX8_next_376 rfl ?_
                  refine ⟨⟨?_, ?_, ?_, fun z => ?_⟩, hFs.up rfl⟩
                  · rw [up_eq]; unfold kcl sgnV; dsimp only; repeat (first | rfl | omega | split)
                  · rw [up_k _ _ (by decide)]; exact s4
                  · rw [up_k _ _ (by decide)]; exact s2
                  · have h3 := sgnV_rng (tx a)
                    have z9 : sgnV (tx a) = 23 := z
                    omega
                · skip
                  omega
              · skip
                refine Ev.iload_n (q := 336) dX8_next_335 rfl rfl ?_
                refine Ev.bipush (q := 338) dX8_next_336 kb_58 rfl ?_
                refine Ev.icmp_eq (tgt := 353) (q := 341) dX8_next_338 (by decide) rfl (fun h62 => ?_) (fun h62 => ?_)
                · skip
                  refine Ev.iconst (q := 354) dX8_next_353 ki_1 rfl ?_
                  refine Ev.goto (q := 358) dX8_next_354 (by decide) ?_
                  refine istore_n_3 (q := 359) dX8_next_358 rfl rfl rfl ?_
                  refine Ev.aload_n (q := 360) dX8_next_359 rfl rfl ?_
                  refine Ev.iload_n (q := 361) dX8_next_360 rfl rfl ?_
                  refine Ev.if_ne (tgt := 368) (q := 364) dX8_next_361 (by decide) rfl (fun h81 => ?_) (fun h81 => ?_)
                  · skip
                    refine Ev.iconst (q := 369) dX8_next_368 ki_3 rfl ?_
                    refine Ev.goto (q := 373) dX8_next_369 (by decide) ?_
                    refine pI (q := 376) dX8_next_373 gfX8_20 k22 rfl rfl ?_
                    refine rV dX8_next_376 rfl ?_
                    refine ⟨⟨?_, ?_, ?_, fun z => ?_⟩, hFs.up rfl⟩
                    · rw [up_eq]; unfold kcl sgnV; dsimp only; repeat (first | rfl | omega | split)
                    · rw [up_k _ _ (by decide)]; exact s4
                    · rw [up_k _ _ (by decide)]; exact s2
                    · have h3 := sgnV_rng (tx a)
                      have z9 : sgnV (tx a) = 23 := z
                      omega
                  · skip
                    omega
                · skip
                  refine Ev.iload_n (q := 342) dX8_next_341 rfl rfl ?_
                  refine Ev.bipush (q := 344) dX8_next_342 kb_40 rfl ?_
                  refine Ev.icmp_eq (tgt := 353) (q := 347) dX8_next_344 (by decide) rfl (fun h63 => ?_) (fun h63 => ?_)
                  · skip
                    refine Ev.iconst (q := 354) dX8_next_353 ki_1 rfl ?_
                    refine Ev.goto (q := 358) dX8_next_354 (by decide) ?_
                    refine istore_n_3 (q := 359) dX8_next_358 rfl rfl rfl ?_
                    refine Ev.aload_n (q := 360) dX8_next_359 rfl rfl ?_
                    refine Ev.iload_n (q := 361) dX8_next_360 rfl rfl ?_
                    refine Ev.if_ne (tgt := 368) (q := 364) dX8_next_361 (by decide) rfl (fun h81 => ?_) (fun h81 => ?_)
                    · skip
                      refine Ev.iconst (q := 369) dX8_next_368 ki_3 rfl ?_
                      refine Ev.goto (q := 373) dX8_next_369 (by decide) ?_
                      refine pI (q := 376) dX8_next_373 gfX8_20 k22 rfl rfl ?_
                      refine rV dX8_next_376 rfl ?_
                      refine ⟨⟨?_, ?_, ?_, fun z => ?_⟩, hFs.up rfl⟩
                      · rw [up_eq]; unfold kcl sgnV; dsimp only; repeat (first | rfl | omega | split)
                      · rw [up_k _ _ (by decide)]; exact s4
                      · rw [up_k _ _ (by decide)]; exact s2
                      · have h3 := sgnV_rng (tx a)
                        have z9 : sgnV (tx a) = 23 := z
                        omega
                    · skip
                      omega
                  · skip
                    refine Ev.iload_n (q := 348) dX8_next_347 rfl rfl ?_
                    refine Ev.bipush (q := 350) dX8_next_348 kb_41 rfl ?_
                    refine Ev.icmp_ne (tgt := 357) (q := 353) dX8_next_350 (by decide) rfl (fun h64 => ?_) (fun h64 => ?_)
                    · skip
                      refine Ev.iconst (q := 358) dX8_next_357 ki_0 rfl ?_
                      refine istore_n_3 (q := 359) dX8_next_358 rfl rfl rfl ?_
                      refine Ev.aload_n (q := 360) dX8_next_359 rfl rfl ?_
                      refine Ev.iload_n (q := 361) dX8_next_360 rfl rfl ?_
                      refine Ev.if_ne (tgt := 368) (q := 364) dX8_next_361 (by decide) rfl (fun h81 => ?_) (fun h81 => ?_)
                      · skip
                        refine Ev.iconst (q := 369) dX8_next_368 ki_3 rfl ?_
                        refine Ev.goto (q := 373) dX8_next_369 (by decide) ?_
                        refine pI (q := 376) dX8_next_373 gfX8_20 k22 rfl rfl ?_
                        refine rV dX8_next_376 rfl ?_
                        refine ⟨⟨?_, ?_, ?_, fun z => ?_⟩, hFs.up rfl⟩
                        · rw [up_eq]; unfold kcl sgnV; dsimp only; repeat (first | rfl | omega | split)
                        · rw [up_k _ _ (by decide)]; exact s4
                        · rw [up_k _ _ (by decide)]; exact s2
                        · have h3 := sgnV_rng (tx a)
                          have z9 : sgnV (tx a) = 23 := z
                          omega
                      · skip
                        omega
                    · skip
                      refine Ev.iconst (q := 354) dX8_next_353 ki_1 rfl ?_
                      refine Ev.goto (q := 358) dX8_next_354 (by decide) ?_
                      refine istore_n_3 (q := 359) dX8_next_358 rfl rfl rfl ?_
                      refine Ev.aload_n (q := 360) dX8_next_359 rfl rfl ?_
                      refine Ev.iload_n (q := 361) dX8_next_360 rfl rfl ?_
                      refine Ev.if_ne (tgt := 368) (q := 364) dX8_next_361 (by decide) rfl (fun h81 => ?_) (fun h81 => ?_)
                      · skip
                        refine Ev.iconst (q := 369) dX8_next_368 ki_3 rfl ?_
                        refine Ev.goto (q := 373) dX8_next_369 (by decide) ?_
                        refine pI (q := 376) dX8_next_373 gfX8_20 k22 rfl rfl ?_
                        refine rV dX8_next_376 rfl ?_
                        refine ⟨⟨?_, ?_, ?_, fun z => ?_⟩, hFs.up rfl⟩
                        · rw [up_eq]; unfold kcl sgnV; dsimp only; repeat (first | rfl | omega | split)
                        · rw [up_k _ _ (by decide)]; exact s4
                        · rw [up_k _ _ (by decide)]; exact s2
                        · have h3 := sgnV_rng (tx a)
                          have z9 : sgnV (tx a) = 23 := z
                          omega
                      · skip
                        omega
            · skip
              refine Ev.iload_n (q := 312) dX8_next_311 rfl rfl ?_
              refine Ev.bipush (q := 314) dX8_next_312 kb_45 rfl ?_
              refine Ev.icmp_eq (tgt := 323) (q := 317) dX8_next_314 (by decide) rfl (fun h42 => ?_) (fun h42 => ?_)
              · skip
                refine Ev.iconst (q := 324) dX8_next_323 ki_1 rfl ?_
                refine Ev.goto (q := 328) dX8_next_324 (by decide) ?_
                refine istore_n_2 (q := 329) dX8_next_328 rfl rfl rfl ?_
                refine Ev.iload_n (q := 330) dX8_next_329 rfl rfl ?_
                refine Ev.bipush (q := 332) dX8_next_330 kb_59 rfl ?_
                refine Ev.icmp_eq (tgt := 353) (q := 335) dX8_next_332 (by decide) rfl (fun h61 => ?_) (fun h61 => ?_)
                · skip
                  refine Ev.iconst (q := 354) dX8_next_353 ki_1 rfl ?_
                  refine Ev.goto (q := 358) dX8_next_354 (by decide) ?_
                  refine istore_n_3 (q := 359) dX8_next_358 rfl rfl rfl ?_
                  refine Ev.aload_n (q := 360) dX8_next_359 rfl rfl ?_
                  refine Ev.iload_n (q := 361) dX8_next_360 rfl rfl ?_
                  refine Ev.if_ne (tgt := 368) (q := 364) dX8_next_361 (by decide) rfl (fun h81 => ?_) (fun h81 => ?_)
                  · skip
                    refine Ev.iconst (q := 369) dX8_next_368 ki_3 rfl ?_
                    refine Ev.goto (q := 373) dX8_next_369 (by decide) ?_
                    refine pI (q := 376) dX8_next_373 gfX8_20 k22 rfl rfl ?_
                    refine rV dX8_next_376 rfl ?_
                    refine ⟨⟨?_, ?_, ?_, fun z => ?_⟩, hFs.up rfl⟩
                    · rw [up_eq]; unfold kcl sgnV; dsimp only; repeat (first | rfl | omega | split)
                    · rw [up_k _ _ (by decide)]; exact s4
                    · rw [up_k _ _ (by decide)]; exact s2
                    · have h3 := sgnV_rng (tx a)
                      have z9 : sgnV (tx a) = 23 := z
                      omega
                  · skip
                    omega
                · skip
                  refine Ev.iload_n (q := 336) dX8_next_335 rfl rfl ?_
                  refine Ev.bipush (q := 338) dX8_next_336 kb_58 rfl ?_
                  refine Ev.icmp_eq (tgt := 353) (q := 341) dX8_next_338 (by decide) rfl (fun h62 => ?_) (fun h62 => ?_)
                  · skip
                    refine Ev.iconst (q := 354) dX8_next_353 ki_1 rfl ?_
                    refine Ev.goto (q := 358) dX8_next_354 (by decide) ?_
                    refine istore_n_3 (q := 359) dX8_next_358 rfl rfl rfl ?_
                    refine Ev.aload_n (q := 360) dX8_next_359 rfl rfl ?_
                    refine Ev.iload_n (q := 361) dX8_next_360 rfl rfl ?_
                    refine Ev.if_ne (tgt := 368) (q := 364) dX8_next_361 (by decide) rfl (fun h81 => ?_) (fun h81 => ?_)
                    · skip
                      refine Ev.iconst (q := 369) dX8_next_368 ki_3 rfl ?_
                      refine Ev.goto (q := 373) dX8_next_369 (by decide) ?_
                      refine pI (q := 376) dX8_next_373 gfX8_20 k22 rfl rfl ?_
                      refine rV dX8_next_376 rfl ?_
                      refine ⟨⟨?_, ?_, ?_, fun z => ?_⟩, hFs.up rfl⟩
                      · rw [up_eq]; unfold kcl sgnV; dsimp only; repeat (first | rfl | omega | split)
                      · rw [up_k _ _ (by decide)]; exact s4
                      · rw [up_k _ _ (by decide)]; exact s2
                      · have h3 := sgnV_rng (tx a)
                        have z9 : sgnV (tx a) = 23 := z
                        omega
                    · skip
                      omega
                  · skip
                    refine Ev.iload_n (q := 342) dX8_next_341 rfl rfl ?_
                    refine Ev.bipush (q := 344) dX8_next_342 kb_40 rfl ?_
                    refine Ev.icmp_eq (tgt := 353) (q := 347) dX8_next_344 (by decide) rfl (fun h63 => ?_) (fun h63 => ?_)
                    · skip
                      refine Ev.iconst (q := 354) dX8_next_353 ki_1 rfl ?_
                      refine Ev.goto (q := 358) dX8_next_354 (by decide) ?_
                      refine istore_n_3 (q := 359) dX8_next_358 rfl rfl rfl ?_
                      refine Ev.aload_n (q := 360) dX8_next_359 rfl rfl ?_
                      refine Ev.iload_n (q := 361) dX8_next_360 rfl rfl ?_
                      refine Ev.if_ne (tgt := 368) (q := 364) dX8_next_361 (by decide) rfl (fun h81 => ?_) (fun h81 => ?_)
                      · skip
                        refine Ev.iconst (q := 369) dX8_next_368 ki_3 rfl ?_
                        refine Ev.goto (q := 373) dX8_next_369 (by decide) ?_
                        refine pI (q := 376) dX8_next_373 gfX8_20 k22 rfl rfl ?_
                        refine rV dX8_next_376 rfl ?_
                        refine ⟨⟨?_, ?_, ?_, fun z => ?_⟩, hFs.up rfl⟩
                        · rw [up_eq]; unfold kcl sgnV; dsimp only; repeat (first | rfl | omega | split)
                        · rw [up_k _ _ (by decide)]; exact s4
                        · rw [up_k _ _ (by decide)]; exact s2
                        · have h3 := sgnV_rng (tx a)
                          have z9 : sgnV (tx a) = 23 := z
                          omega
                      · skip
                        omega
                    · skip
                      refine Ev.iload_n (q := 348) dX8_next_347 rfl rfl ?_
                      refine Ev.bipush (q := 350) dX8_next_348 kb_41 rfl ?_
                      refine Ev.icmp_ne (tgt := 357) (q := 353) dX8_next_350 (by decide) rfl (fun h64 => ?_) (fun h64 => ?_)
                      · skip
                        refine Ev.iconst (q := 358) dX8_next_357 ki_0 rfl ?_
                        refine istore_n_3 (q := 359) dX8_next_358 rfl rfl rfl ?_
                        refine Ev.aload_n (q := 360) dX8_next_359 rfl rfl ?_
                        refine Ev.iload_n (q := 361) dX8_next_360 rfl rfl ?_
                        refine Ev.if_ne (tgt := 368) (q := 364) dX8_next_361 (by decide) rfl (fun h81 => ?_) (fun h81 => ?_)
                        · skip
                          refine Ev.iconst (q := 369) dX8_next_368 ki_3 rfl ?_
                          refine Ev.goto (q := 373) dX8_next_369 (by decide) ?_
                          refine pI (q := 376) dX8_next_373 gfX8_20 k22 rfl rfl ?_
                          refine rV dX8_next_376 rfl ?_
                          refine ⟨⟨?_, ?_, ?_, fun z => ?_⟩, hFs.up rfl⟩
                          · rw [up_eq]; unfold kcl sgnV; dsimp only; repeat (first | rfl | omega | split)
                          · rw [up_k _ _ (by decide)]; exact s4
                          · rw [up_k _ _ (by decide)]; exact s2
                          · have h3 := sgnV_rng (tx a)
                            have z9 : sgnV (tx a) = 23 := z
                            omega
                        · skip
                          omega
                      · skip
                        refine Ev.iconst (q := 354) dX8_next_353 ki_1 rfl ?_
                        refine Ev.goto (q := 358) dX8_next_354 (by decide) ?_
                        refine istore_n_3 (q := 359) dX8_next_358 rfl rfl rfl ?_
                        refine Ev.aload_n (q := 360) dX8_next_359 rfl rfl ?_
                        refine Ev.iload_n (q := 361) dX8_next_360 rfl rfl ?_
                        refine Ev.if_ne (tgt := 368) (q := 364) dX8_next_361 (by decide) rfl (fun h81 => ?_) (fun h81 => ?_)
                        · skip
                          refine Ev.iconst (q := 369) dX8_next_368 ki_3 rfl ?_
                          refine Ev.goto (q := 373) dX8_next_369 (by decide) ?_
                          refine pI (q := 376) dX8_next_373 gfX8_20 k22 rfl rfl ?_
                          refine rV dX8_next_376 rfl ?_
                          refine ⟨⟨?_, ?_, ?_, fun z => ?_⟩, hFs.up rfl⟩
                          · rw [up_eq]; unfold kcl sgnV; dsimp only; repeat (first | rfl | omega | split)
                          · rw [up_k _ _ (by decide)]; exact s4
                          · rw [up_k _ _ (by decide)]; exact s2
                          · have h3 := sgnV_rng (tx a)
                            have z9 : sgnV (tx a) = 23 := z
                            omega
                        · skip
                          omega
              · skip
                refine Ev.iload_n (q := 318) dX8_next_317 rfl rfl ?_
                refine Ev.bipush (q := 320) dX8_next_318 kb_42 rfl ?_
                refine Ev.icmp_ne (tgt := 327) (q := 323) dX8_next_320 (by decide) rfl (fun h43 => ?_) (fun h43 => ?_)
                · skip
                  refine Ev.iconst (q := 328) dX8_next_327 ki_0 rfl ?_
                  refine istore_n_2 (q := 329) dX8_next_328 rfl rfl rfl ?_
                  refine Ev.iload_n (q := 330) dX8_next_329 rfl rfl ?_
                  refine Ev.bipush (q := 332) dX8_next_330 kb_59 rfl ?_
                  refine Ev.icmp_eq (tgt := 353) (q := 335) dX8_next_332 (by decide) rfl (fun h61 => ?_) (fun h61 => ?_)
                  · skip
                    refine Ev.iconst (q := 354) dX8_next_353 ki_1 rfl ?_
                    refine Ev.goto (q := 358) dX8_next_354 (by decide) ?_
                    refine istore_n_3 (q := 359) dX8_next_358 rfl rfl rfl ?_
                    refine Ev.aload_n (q := 360) dX8_next_359 rfl rfl ?_
                    refine Ev.iload_n (q := 361) dX8_next_360 rfl rfl ?_
                    refine Ev.if_ne (tgt := 368) (q := 364) dX8_next_361 (by decide) rfl (fun h81 => ?_) (fun h81 => ?_)
                    · skip
                      omega
                    · skip
                      refine Ev.iload_n (q := 365) dX8_next_364 rfl rfl ?_
                      refine Ev.if_eq (tgt := 372) (q := 368) dX8_next_365 (by decide) rfl (fun h82 => ?_) (fun h82 => ?_)
                      · skip
                        omega
                      · skip
                        refine Ev.iconst (q := 369) dX8_next_368 ki_3 rfl ?_
                        refine Ev.goto (q := 373) dX8_next_369 (by decide) ?_
                        refine pI (q := 376) dX8_next_373 gfX8_20 k22 rfl rfl ?_
                        refine rV dX8_next_376 rfl ?_
                        refine ⟨⟨?_, ?_, ?_, fun z => ?_⟩, hFs.up rfl⟩
                        · rw [up_eq]; unfold kcl sgnV; dsimp only; repeat (first | rfl | omega | split)
                        · rw [up_k _ _ (by decide)]; exact s4
                        · rw [up_k _ _ (by decide)]; exact s2
                        · have h3 := sgnV_rng (tx a)
                          have z9 : sgnV (tx a) = 23 := z
                          omega
                  · skip
                    refine Ev.iload_n (q := 336) dX8_next_335 rfl rfl ?_
                    refine Ev.bipush (q := 338) dX8_next_336 kb_58 rfl ?_
                    refine Ev.icmp_eq (tgt := 353) (q := 341) dX8_next_338 (by decide) rfl (fun h62 => ?_) (fun h62 => ?_)
                    · skip
                      refine Ev.iconst (q := 354) dX8_next_353 ki_1 rfl ?_
                      refine Ev.goto (q := 358) dX8_next_354 (by decide) ?_
                      refine istore_n_3 (q := 359) dX8_next_358 rfl rfl rfl ?_
                      refine Ev.aload_n (q := 360) dX8_next_359 rfl rfl ?_
                      refine Ev.iload_n (q := 361) dX8_next_360 rfl rfl ?_
                      refine Ev.if_ne (tgt := 368) (q := 364) dX8_next_361 (by decide) rfl (fun h81 => ?_) (fun h81 => ?_)
                      · skip
                        omega
                      · skip
                        refine Ev.iload_n (q := 365) dX8_next_364 rfl rfl ?_
                        refine Ev.if_eq (tgt := 372) (q := 368) dX8_next_365 (by decide) rfl (fun h82 => ?_) (fun h82 => ?_)
                        · skip
                          omega
                        · skip
                          refine Ev.iconst (q := 369) dX8_next_368 ki_3 rfl ?_
                          refine Ev.goto (q := 373) dX8_next_369 (by decide) ?_
                          refine pI (q := 376) dX8_next_373 gfX8_20 k22 rfl rfl ?_
                          refine rV dX8_next_376 rfl ?_
                          refine ⟨⟨?_, ?_, ?_, fun z => ?_⟩, hFs.up rfl⟩
                          · rw [up_eq]; unfold kcl sgnV; dsimp only; repeat (first | rfl | omega | split)
                          · rw [up_k _ _ (by decide)]; exact s4
                          · rw [up_k _ _ (by decide)]; exact s2
                          · have h3 := sgnV_rng (tx a)
                            have z9 : sgnV (tx a) = 23 := z
                            omega
                    · skip
                      refine Ev.iload_n (q := 342) dX8_next_341 rfl rfl ?_
                      refine Ev.bipush (q := 344) dX8_next_342 kb_40 rfl ?_
                      refine Ev.icmp_eq (tgt := 353) (q := 347) dX8_next_344 (by decide) rfl (fun h63 => ?_) (fun h63 => ?_)
                      · skip
                        refine Ev.iconst (q := 354) dX8_next_353 ki_1 rfl ?_
                        refine Ev.goto (q := 358) dX8_next_354 (by decide) ?_
                        refine istore_n_3 (q := 359) dX8_next_358 rfl rfl rfl ?_
                        refine Ev.aload_n (q := 360) dX8_next_359 rfl rfl ?_
                        refine Ev.iload_n (q := 361) dX8_next_360 rfl rfl ?_
                        refine Ev.if_ne (tgt := 368) (q := 364) dX8_next_361 (by decide) rfl (fun h81 => ?_) (fun h81 => ?_)
                        · skip
                          omega
                        · skip
                          refine Ev.iload_n (q := 365) dX8_next_364 rfl rfl ?_
                          refine Ev.if_eq (tgt := 372) (q := 368) dX8_next_365 (by decide) rfl (fun h82 => ?_) (fun h82 => ?_)
                          · skip
                            omega
                          · skip
                            refine Ev.iconst (q := 369) dX8_next_368 ki_3 rfl ?_
                            refine Ev.goto (q := 373) dX8_next_369 (by decide) ?_
                            refine pI (q := 376) dX8_next_373 gfX8_20 k22 rfl rfl ?_
                            refine rV dX8_next_376 rfl ?_
                            refine ⟨⟨?_, ?_, ?_, fun z => ?_⟩, hFs.up rfl⟩
                            · rw [up_eq]; unfold kcl sgnV; dsimp only; repeat (first | rfl | omega | split)
                            · rw [up_k _ _ (by decide)]; exact s4
                            · rw [up_k _ _ (by decide)]; exact s2
                            · have h3 := sgnV_rng (tx a)
                              have z9 : sgnV (tx a) = 23 := z
                              omega
                      · skip
                        refine Ev.iload_n (q := 348) dX8_next_347 rfl rfl ?_
                        refine Ev.bipush (q := 350) dX8_next_348 kb_41 rfl ?_
                        refine Ev.icmp_ne (tgt := 357) (q := 353) dX8_next_350 (by decide) rfl (fun h64 => ?_) (fun h64 => ?_)
                        · skip
                          refine Ev.iconst (q := 358) dX8_next_357 ki_0 rfl ?_
                          refine istore_n_3 (q := 359) dX8_next_358 rfl rfl rfl ?_
                          refine Ev.aload_n (q := 360) dX8_next_359 rfl rfl ?_
                          refine Ev.iload_n (q := 361) dX8_next_360 rfl rfl ?_
                          refine Ev.if_ne (tgt := 368) (q := 364) dX8_next_361 (by decide) rfl (fun h81 => ?_) (fun h81 => ?_)
                          · skip
                            omega
                          · skip
                            refine Ev.iload_n (q := 365) dX8_next_364 rfl rfl ?_
                            refine Ev.if_eq (tgt := 372) (q := 368) dX8_next_365 (by decide) rfl (fun h82 => ?_) (fun h82 => ?_)
                            · skip
                              refine Ev.iconst (q := 373) dX8_next_372 ki_4 rfl ?_
                              refine pI (q := 376) dX8_next_373 gfX8_20 k22 rfl rfl ?_
                              refine rV dX8_next_376 rfl ?_
                              refine ⟨⟨?_, ?_, ?_, fun z => ?_⟩, hFs.up rfl⟩
                              · rw [up_eq]; unfold kcl sgnV; dsimp only; repeat (first | rfl | omega | split)
                              · rw [up_k _ _ (by decide)]; exact s4
                              · rw [up_k _ _ (by decide)]; exact s2
                              · have h3 := sgnV_rng (tx a)
                                have z9 : sgnV (tx a) = 23 := z
                                omega
                            · skip
                              omega
                        · skip
                          refine Ev.iconst (q := 354) dX8_next_353 ki_1 rfl ?_
                          refine Ev.goto (q := 358) dX8_next_354 (by decide) ?_
                          refine istore_n_3 (q := 359) dX8_next_358 rfl rfl rfl ?_
                          refine Ev.aload_n (q := 360) dX8_next_359 rfl rfl ?_
                          refine Ev.iload_n (q := 361) dX8_next_360 rfl rfl ?_
                          refine Ev.if_ne (tgt := 368) (q := 364) dX8_next_361 (by decide) rfl (fun h81 => ?_) (fun h81 => ?_)
                          · skip
                            omega
                          · skip
                            refine Ev.iload_n (q := 365) dX8_next_364 rfl rfl ?_
                            refine Ev.if_eq (tgt := 372) (q := 368) dX8_next_365 (by decide) rfl (fun h82 => ?_) (fun h82 => ?_)
                            · skip
                              omega
                            · skip
                              refine Ev.iconst (q := 369) dX8_next_368 ki_3 rfl ?_
                              refine Ev.goto (q := 373) dX8_next_369 (by decide) ?_
                              refine pI (q := 376) dX8_next_373 gfX8_20 k22 rfl rfl ?_
                              refine rV dX8_next_376 rfl ?_
                              refine ⟨⟨?_, ?_, ?_, fun z => ?_⟩, hFs.up rfl⟩
                              · rw [up_eq]; unfold kcl sgnV; dsimp only; repeat (first | rfl | omega | split)
                              · rw [up_k _ _ (by decide)]; exact s4
                              · rw [up_k _ _ (by decide)]; exact s2
                              · have h3 := sgnV_rng (tx a)
                                have z9 : sgnV (tx a) = 23 := z
                                omega
                · skip
                  refine Ev.iconst (q := 324) dX8_next_323 ki_1 rfl ?_
                  refine Ev.goto (q := 328) dX8_next_324 (by decide) ?_
                  refine istore_n_2 (q := 329) dX8_next_328 rfl rfl rfl ?_
                  refine Ev.iload_n (q := 330) dX8_next_329 rfl rfl ?_
                  refine Ev.bipush (q := 332) dX8_next_330 kb_59 rfl ?_
                  refine Ev.icmp_eq (tgt := 353) (q := 335) dX8_next_332 (by decide) rfl (fun h61 => ?_) (fun h61 => ?_)
                  · skip
                    refine Ev.iconst (q := 354) dX8_next_353 ki_1 rfl ?_
                    refine Ev.goto (q := 358) dX8_next_354 (by decide) ?_
                    refine istore_n_3 (q := 359) dX8_next_358 rfl rfl rfl ?_
                    refine Ev.aload_n (q := 360) dX8_next_359 rfl rfl ?_
                    refine Ev.iload_n (q := 361) dX8_next_360 rfl rfl ?_
                    refine Ev.if_ne (tgt := 368) (q := 364) dX8_next_361 (by decide) rfl (fun h81 => ?_) (fun h81 => ?_)
                    · skip
                      refine Ev.iconst (q := 369) dX8_next_368 ki_3 rfl ?_
                      refine Ev.goto (q := 373) dX8_next_369 (by decide) ?_
                      refine pI (q := 376) dX8_next_373 gfX8_20 k22 rfl rfl ?_
                      refine rV dX8_next_376 rfl ?_
                      refine ⟨⟨?_, ?_, ?_, fun z => ?_⟩, hFs.up rfl⟩
                      · rw [up_eq]; unfold kcl sgnV; dsimp only; repeat (first | rfl | omega | split)
                      · rw [up_k _ _ (by decide)]; exact s4
                      · rw [up_k _ _ (by decide)]; exact s2
                      · have h3 := sgnV_rng (tx a)
                        have z9 : sgnV (tx a) = 23 := z
                        omega
                    · skip
                      omega
                  · skip
                    refine Ev.iload_n (q := 336) dX8_next_335 rfl rfl ?_
                    refine Ev.bipush (q := 338) dX8_next_336 kb_58 rfl ?_
                    refine Ev.icmp_eq (tgt := 353) (q := 341) dX8_next_338 (by decide) rfl (fun h62 => ?_) (fun h62 => ?_)
                    · skip
                      refine Ev.iconst (q := 354) dX8_next_353 ki_1 rfl ?_
                      refine Ev.goto (q := 358) dX8_next_354 (by decide) ?_
                      refine istore_n_3 (q := 359) dX8_next_358 rfl rfl rfl ?_
                      refine Ev.aload_n (q := 360) dX8_next_359 rfl rfl ?_
                      refine Ev.iload_n (q := 361) dX8_next_360 rfl rfl ?_
                      refine Ev.if_ne (tgt := 368) (q := 364) dX8_next_361 (by decide) rfl (fun h81 => ?_) (fun h81 => ?_)
                      · skip
                        refine Ev.iconst (q := 369) dX8_next_368 ki_3 rfl ?_
                        refine Ev.goto (q := 373) dX8_next_369 (by decide) ?_
                        refine pI (q := 376) dX8_next_373 gfX8_20 k22 rfl rfl ?_
                        refine rV dX8_next_376 rfl ?_
                        refine ⟨⟨?_, ?_, ?_, fun z => ?_⟩, hFs.up rfl⟩
                        · rw [up_eq]; unfold kcl sgnV; dsimp only; repeat (first | rfl | omega | split)
                        · rw [up_k _ _ (by decide)]; exact s4
                        · rw [up_k _ _ (by decide)]; exact s2
                        · have h3 := sgnV_rng (tx a)
                          have z9 : sgnV (tx a) = 23 := z
                          omega
                      · skip
                        omega
                    · skip
                      refine Ev.iload_n (q := 342) dX8_next_341 rfl rfl ?_
                      refine Ev.bipush (q := 344) dX8_next_342 kb_40 rfl ?_
                      refine Ev.icmp_eq (tgt := 353) (q := 347) dX8_next_344 (by decide) rfl (fun h63 => ?_) (fun h63 => ?_)
                      · skip
                        refine Ev.iconst (q := 354) dX8_next_353 ki_1 rfl ?_
                        refine Ev.goto (q := 358) dX8_next_354 (by decide) ?_
                        refine istore_n_3 (q := 359) dX8_next_358 rfl rfl rfl ?_
                        refine Ev.aload_n (q := 360) dX8_next_359 rfl rfl ?_
                        refine Ev.iload_n (q := 361) dX8_next_360 rfl rfl ?_
                        refine Ev.if_ne (tgt := 368) (q := 364) dX8_next_361 (by decide) rfl (fun h81 => ?_) (fun h81 => ?_)
                        · skip
                          refine Ev.iconst (q := 369) dX8_next_368 ki_3 rfl ?_
                          refine Ev.goto (q := 373) dX8_next_369 (by decide) ?_
                          refine pI (q := 376) dX8_next_373 gfX8_20 k22 rfl rfl ?_
                          refine rV dX8_next_376 rfl ?_
                          refine ⟨⟨?_, ?_, ?_, fun z => ?_⟩, hFs.up rfl⟩
                          · rw [up_eq]; unfold kcl sgnV; dsimp only; repeat (first | rfl | omega | split)
                          · rw [up_k _ _ (by decide)]; exact s4
                          · rw [up_k _ _ (by decide)]; exact s2
                          · have h3 := sgnV_rng (tx a)
                            have z9 : sgnV (tx a) = 23 := z
                            omega
                        · skip
                          omega
                      · skip
                        refine Ev.iload_n (q := 348) dX8_next_347 rfl rfl ?_
                        refine Ev.bipush (q := 350) dX8_next_348 kb_41 rfl ?_
                        refine Ev.icmp_ne (tgt := 357) (q := 353) dX8_next_350 (by decide) rfl (fun h64 => ?_) (fun h64 => ?_)
                        · skip
                          refine Ev.iconst (q := 358) dX8_next_357 ki_0 rfl ?_
                          refine istore_n_3 (q := 359) dX8_next_358 rfl rfl rfl ?_
                          refine Ev.aload_n (q := 360) dX8_next_359 rfl rfl ?_
                          refine Ev.iload_n (q := 361) dX8_next_360 rfl rfl ?_
                          refine Ev.if_ne (tgt := 368) (q := 364) dX8_next_361 (by decide) rfl (fun h81 => ?_) (fun h81 => ?_)
                          · skip
                            refine Ev.iconst (q := 369) dX8_next_368 ki_3 rfl ?_
                            refine Ev.goto (q := 373) dX8_next_369 (by decide) ?_
                            refine pI (q := 376) dX8_next_373 gfX8_20 k22 rfl rfl ?_
                            refine rV dX8_next_376 rfl ?_
                            refine ⟨⟨?_, ?_, ?_, fun z => ?_⟩, hFs.up rfl⟩
                            · rw [up_eq]; unfold kcl sgnV; dsimp only; repeat (first | rfl | omega | split)
                            · rw [up_k _ _ (by decide)]; exact s4
                            · rw [up_k _ _ (by decide)]; exact s2
                            · have h3 := sgnV_rng (tx a)
                              have z9 : sgnV (tx a) = 23 := z
                              omega
                          · skip
                            omega
                        · skip
                          refine Ev.iconst (q := 354) dX8_next_353 ki_1 rfl ?_
                          refine Ev.goto (q := 358) dX8_next_354 (by decide) ?_
                          refine istore_n_3 (q := 359) dX8_next_358 rfl rfl rfl ?_
                          refine Ev.aload_n (q := 360) dX8_next_359 rfl rfl ?_
                          refine Ev.iload_n (q := 361) dX8_next_360 rfl rfl ?_
                          refine Ev.if_ne (tgt := 368) (q := 364) dX8_next_361 (by decide) rfl (fun h81 => ?_) (fun h81 => ?_)
                          · skip
                            refine Ev.iconst (q := 369) dX8_next_368 ki_3 rfl ?_
                            refine Ev.goto (q := 373) dX8_next_369 (by decide) ?_
                            refine pI (q := 376) dX8_next_373 gfX8_20 k22 rfl rfl ?_
                            refine rV dX8_next_376 rfl ?_
                            refine ⟨⟨?_, ?_, ?_, fun z => ?_⟩, hFs.up rfl⟩
                            · rw [up_eq]; unfold kcl sgnV; dsimp only; repeat (first | rfl | omega | split)
                            · rw [up_k _ _ (by decide)]; exact s4
                            · rw [up_k _ _ (by decide)]; exact s2
                            · have h3 := sgnV_rng (tx a)
                              have z9 : sgnV (tx a) = 23 := z
                              omega
                          · skip
                            omega
          · skip
            refine Ev.aload_n (q := 184) dX8_next_183 rfl rfl ?_
            refine Ev.iload_n (q := 185) dX8_next_184 rfl rfl ?_
            refine Ev.bipush (q := 187) dX8_next_185 kb_48 rfl ?_
            refine Ev.isub (q := 188) dX8_next_187 rfl ?_
            rw [w32_of (by omega) (by omega)]
            refine pI (q := 191) dX8_next_188 gfX8_26 k22 rfl rfl ?_
            have hdg : isDg (tx a) = true := decide_eq_true (show 48 ≤ tx a ∧ tx a ≤ 57 by omega)
            rw [if_pos hdg] at htok
            rw [htok]
            have hrl := rE_le isDg tx N a
            have hrl2 := hrl.2 (by omega)
            refine lc_nxD (m0 := m) tx N hN hC a b (fun M9 hF9 j2 j4 j5 => ?_) (N - (a + 1)) (a + 1) _ (by omega) (by omega) (hFs.up rfl) (by rw [up_k _ _ (by decide)]; exact s2) (by rw [up_k _ _ (by decide)]; exact s4) (by rw [up_eq, show min 3 (a + 1 - a) = 1 by omega]; show _ = 10 * 0 + tx (a + 0) - 48; rw [Nat.add_zero]; omega) (fun i h6 h7 => by rw [show i = a by omega]; exact hdg) (rE_in hlt hdg)
            refine Ev.aload_n (q := 281) dX8_next_280 rfl rfl ?_
            refine Ev.aload_n (q := 282) dX8_next_281 rfl rfl ?_
            refine gI (q := 285) dX8_next_282 gfX8_17 k22 rfl rfl ?_
            rw [j2]
            refine Ev.aload_n (q := 286) dX8_next_285 rfl rfl ?_
            refine gI (q := 289) dX8_next_286 gfX8_23 k22 rfl rfl ?_
            refine Ev.isub (q := 290) dX8_next_289 rfl ?_
            rw [j4, w32_of (by omega) (by omega)]
            refine Ev.iconst (q := 291) dX8_next_290 ki_3 rfl ?_
            refine Ev.icmp_le (tgt := 298) (q := 294) dX8_next_291 (by decide) rfl (fun h1 => ?_) (fun h1 => ?_)
            · skip
              refine Ev.iconst (q := 299) dX8_next_298 ki_2 rfl ?_
              refine pI (q := 302) dX8_next_299 gfX8_20 k22 rfl rfl ?_
              refine Ev.goto (q := 376) dX8_next_302 (by decide) ?_
              refine rV dX8_next_376 rfl ?_
              rw [if_neg (by omega)]
              refine ⟨⟨?_, ?_, ?_, fun z => ?_⟩, hF9.up rfl⟩
              · rw [up_eq]; rfl
              · rw [up_k _ _ (by decide)]; exact j4
              · rw [up_k _ _ (by decide)]; exact j2
              · rw [up_k _ _ (by decide)]; exact j5
            · skip
              refine Ev.iconst (q := 295) dX8_next_294 ki_4 rfl ?_
              refine Ev.goto (q := 299) dX8_next_295 (by decide) ?_
              refine pI (q := 302) dX8_next_299 gfX8_20 k22 rfl rfl ?_
              refine Ev.goto (q := 376) dX8_next_302 (by decide) ?_
              refine rV dX8_next_376 rfl ?_
              rw [if_pos (by omega)]
              refine ⟨⟨?_, ?_, ?_, fun z => ?_⟩, hF9.up rfl⟩
              · rw [up_eq]; rfl
              · rw [up_k _ _ (by decide)]; exact j4
              · rw [up_k _ _ (by decide)]; exact j2
              · exact absurd z (by show ¬ (25 : Int) = 23; decide)
      · skip
        have hsm : isSm (tx a) = true := decide_eq_true (show 97 ≤ tx a ∧ tx a ≤ 122 by omega)
        rw [if_pos hsm] at htok
        rw [htok]
        refine lc_nxL (m0 := m) tx N hN hC a b (fun M9 hF9 j2 j4 => ?_) (N - (a + 1)) (a + 1) Ms (by omega) hFs s2 s4 (rE_in hlt hsm)
        refine Ev.aload_n (q := 164) dX8_next_163 rfl rfl ?_
        refine Ev.iconst (q := 165) dX8_next_164 ki_1 rfl ?_
        refine pI (q := 168) dX8_next_165 gfX8_20 k22 rfl rfl ?_
        refine Ev.goto (q := 376) dX8_next_168 (by decide) ?_
        refine rV dX8_next_376 rfl ?_
        refine ⟨⟨?_, ?_, ?_, fun z => ?_⟩, hF9.up rfl⟩
        · rw [up_eq]; have h3 := keyV_rng tx a (rE isSm tx N a); unfold kcl; dsimp only; rw [if_neg (by omega), if_pos (by omega)]
        · rw [up_k _ _ (by decide)]; exact j4
        · rw [up_k _ _ (by decide)]; exact j2
        · have h3 := keyV_rng tx a (rE isSm tx N a)
          have z9 : keyV tx a (rE isSm tx N a) = 23 := z
          omega
  · skip
    refine rV dX8_next_81 rfl ?_
    rw [if_pos (by omega)] at htok
    rw [htok]
    refine ⟨⟨?_, ?_, ?_, fun z => absurd z (by show ¬ (24 : Int) = 23; decide)⟩, ((hF.up rfl).up rfl).up rfl⟩
    · rw [up_eq]; rfl
    · simp (disch := decide) only [up_k, up_eq]
    · simp (disch := decide) only [up_k, up_eq]; exact ha2
