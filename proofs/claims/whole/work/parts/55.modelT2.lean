/-! ===== the reference: the next token ===== -/
def sTk (a k : Nat) : Bool := a == 211 && (k == 6 || k == 7 || k == 9 || k == 10)
/-- the token t stands in the fields -/
def TkM (m : Mem) (t : Tok) : Prop := m 211 9 = t.1 ∧ m 211 6 = t.2.1 ∧ m 211 7 = t.2.2.1 ∧ (t.1 = 23 → m 211 10 = t.2.2.2)
theorem isSp_m1 : isSp (-1) = false := by decide
theorem isSm_m1 : isSm (-1) = false := by decide
theorem isDg_m1 : isDg (-1) = false := by decide
theorem isSm_iff (c : Int) : isSm c = true ↔ (97 ≤ c ∧ c ≤ 122) := by unfold isSm; exact decide_eq_true_iff
theorem isDg_iff (c : Int) : isDg c = true ↔ (48 ≤ c ∧ c ≤ 57) := by unfold isDg; exact decide_eq_true_iff
theorem isSp_iff (c : Int) : isSp c = true ↔ (c = 10 ∨ c = 32) := by unfold isSp; exact decide_eq_true_iff
set_option maxRecDepth 4000 in
theorem l_nxA {Γ : Gm} {d : Nat} {m0 : Mem} {Po : Int → Mem → Prop} (N : Nat) (tx : Nat → Int) (hN : N ≤ 900) (h8 : m0 211 8 = N) (htx : m0 214 = tx) : ∀ (q a : Nat) (M : Mem), N - a < q → a ≤ N → Fr sTk m0 M → M 211 6 = a → (∀ M', Fr sTk m0 M' → M' 211 6 = (rE isSp tx N a : Nat) → Em Γ (d + 5) MX12_next Po 47 [rv 211, uv] [] M') → Em Γ (d + 5) MX12_next Po 8 [rv 211, uv] [] M := by
  intro q
  induction q with
  | zero => intro a M hq; omega
  | succ q ih =>
    intro a M hq ha hF h6 kont
    have f8 : M 211 8 = N := by rw [hF 211 8 rfl]; exact h8
    have f14 : M 214 = tx := by rw [hF.row 214 (fun _ => rfl)]; exact htx
    refine Ev.aload_n (q := 9) dX12_next_8 rfl rfl ?_
    refine Ev.aload_n (q := 10) dX12_next_9 rfl rfl ?_
    refine gI (q := 13) dX12_next_10 gfX12_74 k211 rfl rfl ?_
    rw [h6]
    refine cV1i (q := 16) (d' := d + 4) dX12_next_13 mlX12_80 moX12_see mvX12_see k211 rfl rfl rfl (Nat.le_refl _) rfl rfl rfl (p_X12_see a N f8 hN) (fun r1 m1 e1 => ?_)
    obtain ⟨rfl, e1⟩ := e1
    obtain rfl := e1.symm
    rw [f14]
    refine Ev.bipush (q := 18) dX12_next_16 kb_10 rfl ?_
    refine Ev.icmp_eq (tgt := 34) (q := 21) dX12_next_18 (by decide) rfl (fun h2 => ?_) (fun h2 => ?_)
    · skip
      have hsp : a < N ∧ isSp (tx a) = true := by split at h2 <;> first | exact ⟨by assumption, (isSp_iff _).mpr (Or.inl h2)⟩ | omega
      refine Ev.aload_n (q := 35) dX12_next_34 rfl rfl ?_
      refine Ev.dup (q := 36) dX12_next_35 (fun z => by cases z) rfl ?_
      refine gI (q := 39) dX12_next_36 gfX12_74 k211 rfl rfl ?_
      refine Ev.iconst (q := 40) dX12_next_39 ki_1 rfl ?_
      rw [h6]
      refine Ev.iadd (q := 41) dX12_next_40 rfl ?_
      refine pI (q := 44) dX12_next_41 gfX12_74 k211 rfl rfl ?_
      refine Ev.goto (q := 8) dX12_next_44 (by decide) ?_
      rw [w32_of (by omega) (by omega)]
      refine ih (a + 1) _ (by have := hsp.1; omega) (by have := hsp.1; omega) (hF.up rfl) (up_eq _ _ _ _) ?_
      rw [← rE_in hsp.1 hsp.2]
      exact kont
    · skip
      refine Ev.aload_n (q := 22) dX12_next_21 rfl rfl ?_
      refine Ev.aload_n (q := 23) dX12_next_22 rfl rfl ?_
      refine gI (q := 26) dX12_next_23 gfX12_74 k211 rfl rfl ?_
      rw [h6]
      refine cV1i (q := 29) (d' := d + 4) dX12_next_26 mlX12_80 moX12_see mvX12_see k211 rfl rfl rfl (Nat.le_refl _) rfl rfl rfl (p_X12_see a N f8 hN) (fun r3 m3 e3 => ?_)
      obtain ⟨rfl, e3⟩ := e3
      obtain rfl := e3.symm
      rw [f14]
      refine Ev.bipush (q := 31) dX12_next_29 kb_32 rfl ?_
      refine Ev.icmp_ne (tgt := 47) (q := 34) dX12_next_31 (by decide) rfl (fun h4 => ?_) (fun h4 => ?_)
      · skip
        have hns : ¬ (a < N ∧ isSp (tx a) = true) := fun z => by rw [if_pos z.1] at *; rcases (isSp_iff _).mp z.2 with e | e <;> contradiction
        rw [rE_out hns] at kont
        exact kont M hF h6
      · skip
        have hsp : a < N ∧ isSp (tx a) = true := by split at h4 <;> first | exact ⟨by assumption, (isSp_iff _).mpr (Or.inr h4)⟩ | omega
        refine Ev.aload_n (q := 35) dX12_next_34 rfl rfl ?_
        refine Ev.dup (q := 36) dX12_next_35 (fun z => by cases z) rfl ?_
        refine gI (q := 39) dX12_next_36 gfX12_74 k211 rfl rfl ?_
        refine Ev.iconst (q := 40) dX12_next_39 ki_1 rfl ?_
        rw [h6]
        refine Ev.iadd (q := 41) dX12_next_40 rfl ?_
        refine pI (q := 44) dX12_next_41 gfX12_74 k211 rfl rfl ?_
        refine Ev.goto (q := 8) dX12_next_44 (by decide) ?_
        rw [w32_of (by omega) (by omega)]
        refine ih (a + 1) _ (by have := hsp.1; omega) (by have := hsp.1; omega) (hF.up rfl) (up_eq _ _ _ _) ?_
        rw [← rE_in hsp.1 hsp.2]
        exact kont
set_option maxRecDepth 4000 in
theorem l_nxS {Γ : Gm} {d : Nat} {m0 : Mem} {Po : Int → Mem → Prop} (N : Nat) (tx : Nat → Int) (hN : N ≤ 900) (h8 : m0 211 8 = N) (htx : m0 214 = tx) (a : Nat) : ∀ (q b : Nat) (M : Mem), N - b < q → b ≤ N → Fr sTk m0 M → M 211 6 = a → M 211 7 = b → (∀ M', Fr sTk m0 M' → M' 211 6 = a → M' 211 7 = (rE isSm tx N b : Nat) → Em Γ (d + 5) MX12_next Po 116 [rv 211, uv] [] M') → Em Γ (d + 5) MX12_next Po 89 [rv 211, uv] [] M := by
  intro q
  induction q with
  | zero => intro b M hq; omega
  | succ q ih =>
    intro b M hq hb hF h6 h7 kont
    have f8 : M 211 8 = N := by rw [hF 211 8 rfl]; exact h8
    have f14 : M 214 = tx := by rw [hF.row 214 (fun _ => rfl)]; exact htx
    refine Ev.aload_n (q := 90) dX12_next_89 rfl rfl ?_
    refine Ev.aload_n (q := 91) dX12_next_90 rfl rfl ?_
    refine gI (q := 94) dX12_next_91 gfX12_77 k211 rfl rfl ?_
    rw [h7]
    refine cV1i (q := 97) (d' := d + 4) dX12_next_94 mlX12_80 moX12_see mvX12_see k211 rfl rfl rfl (Nat.le_refl _) rfl rfl rfl (p_X12_see b N f8 hN) (fun r1 m1 e1 => ?_)
    obtain ⟨rfl, e1⟩ := e1
    obtain rfl := e1.symm
    rw [f14]
    refine cS1i (q := 100) (d' := d + 4) dX12_next_97 mlX12_87 moX12_isSmall msX12_isSmall rfl rfl (Nat.le_refl _) rfl rfl rfl (p_X12_isSmall _) (fun r2 m2 e2 => ?_)
    obtain ⟨rfl, e2⟩ := e2
    obtain rfl := e2.symm
    refine Ev.if_eq (tgt := 116) (q := 103) dX12_next_100 (by decide) rfl (fun h3 => ?_) (fun h3 => ?_)
    · skip
      have hns : ¬ (b < N ∧ isSm (tx b) = true) := fun z => by rw [if_pos z.1, if_pos ((isSm_iff _).mp z.2)] at h3; exact absurd h3 (by decide)
      rw [rE_out hns] at kont
      exact kont M hF h6 h7
    · skip
      have hsm : b < N ∧ isSm (tx b) = true := by
        by_cases e : b < N
        · rw [if_pos e] at h3
          refine ⟨e, (isSm_iff _).mpr ?_⟩
          split at h3 <;> first | assumption | exact absurd rfl h3
        · rw [if_neg e] at h3
          exact absurd rfl h3
      refine Ev.aload_n (q := 104) dX12_next_103 rfl rfl ?_
      refine Ev.dup (q := 105) dX12_next_104 (fun z => by cases z) rfl ?_
      refine gI (q := 108) dX12_next_105 gfX12_77 k211 rfl rfl ?_
      refine Ev.iconst (q := 109) dX12_next_108 ki_1 rfl ?_
      rw [h7]
      refine Ev.iadd (q := 110) dX12_next_109 rfl ?_
      refine pI (q := 113) dX12_next_110 gfX12_77 k211 rfl rfl ?_
      refine Ev.goto (q := 89) dX12_next_113 (by decide) ?_
      rw [w32_of (by omega) (by omega)]
      refine ih (b + 1) _ (by have := hsm.1; omega) (by have := hsm.1; omega) (hF.up rfl) (by rw [up_k _ _ (by decide)]; exact h6) (up_eq _ _ _ _) ?_
      rw [← rE_in hsm.1 hsm.2]
      exact kont
set_option maxRecDepth 4000 in
theorem l_nxD {Γ : Gm} {d : Nat} {m0 : Mem} {Po : Int → Mem → Prop} (N : Nat) (tx : Nat → Int) (hN : N ≤ 900) (h8 : m0 211 8 = N) (htx : m0 214 = tx) (a : Nat) : ∀ (q b : Nat) (M : Mem), N - b < q → b ≤ N → a ≤ b → Fr sTk m0 M → M 211 6 = a → M 211 7 = b → M 211 10 = dig tx a (min 3 (b - a)) → (∀ i, i < b - a → 48 ≤ tx (a + i) ∧ tx (a + i) ≤ 57) → (∀ M', Fr sTk m0 M' → M' 211 6 = a → M' 211 7 = (rE isDg tx N b : Nat) → M' 211 10 = dig tx a (min 3 (rE isDg tx N b - a)) → Em Γ (d + 5) MX12_next Po 209 [rv 211, uv] [] M') → Em Γ (d + 5) MX12_next Po 146 [rv 211, uv] [] M := by
  intro q
  induction q with
  | zero => intro b M hq; omega
  | succ q ih =>
    intro b M hq hb hab hF h6 h7 h10 hdg kont
    have f8 : M 211 8 = N := by rw [hF 211 8 rfl]; exact h8
    have f14 : M 214 = tx := by rw [hF.row 214 (fun _ => rfl)]; exact htx
    refine Ev.aload_n (q := 147) dX12_next_146 rfl rfl ?_
    refine Ev.aload_n (q := 148) dX12_next_147 rfl rfl ?_
    refine gI (q := 151) dX12_next_148 gfX12_77 k211 rfl rfl ?_
    rw [h7]
    refine cV1i (q := 154) (d' := d + 4) dX12_next_151 mlX12_80 moX12_see mvX12_see k211 rfl rfl rfl (Nat.le_refl _) rfl rfl rfl (p_X12_see b N f8 hN) (fun r1 m1 e1 => ?_)
    obtain ⟨rfl, e1⟩ := e1
    obtain rfl := e1.symm
    rw [f14]
    refine cS1i (q := 157) (d' := d + 4) dX12_next_154 mlX12_94 moX12_isDigit msX12_isDigit rfl rfl (Nat.le_refl _) rfl rfl rfl (p_X12_isDigit _) (fun r2 m2 e2 => ?_)
    obtain ⟨rfl, e2⟩ := e2
    obtain rfl := e2.symm
    refine Ev.if_eq (tgt := 209) (q := 160) dX12_next_157 (by decide) rfl (fun h3 => ?_) (fun h3 => ?_)
    · skip
      have hns : ¬ (b < N ∧ isDg (tx b) = true) := fun z => by rw [if_pos z.1, if_pos ((isDg_iff _).mp z.2)] at h3; exact absurd h3 (by decide)
      rw [rE_out hns] at kont
      exact kont M hF h6 h7 h10
    · skip
      have hsm : b < N ∧ isDg (tx b) = true := by
        by_cases e : b < N
        · rw [if_pos e] at h3
          refine ⟨e, (isDg_iff _).mpr ?_⟩
          split at h3 <;> first | assumption | exact absurd rfl h3
        · rw [if_neg e] at h3
          exact absurd rfl h3
      have hdb := (isDg_iff _).mp hsm.2
      refine Ev.aload_n (q := 161) dX12_next_160 rfl rfl ?_
      refine gI (q := 164) dX12_next_161 gfX12_77 k211 rfl rfl ?_
      refine Ev.aload_n (q := 165) dX12_next_164 rfl rfl ?_
      refine gI (q := 168) dX12_next_165 gfX12_74 k211 rfl rfl ?_
      refine Ev.isub (q := 169) dX12_next_168 rfl ?_
      refine Ev.iconst (q := 170) dX12_next_169 ki_3 rfl ?_
      rw [h7, h6, w32_of (by omega) (by omega)]
      refine Ev.icmp_ge (tgt := 196) (q := 173) dX12_next_170 (by decide) rfl (fun h4 => ?_) (fun h4 => ?_)
      · skip
        refine Ev.aload_n (q := 197) dX12_next_196 rfl rfl ?_
        refine Ev.dup (q := 198) dX12_next_197 (fun z => by cases z) rfl ?_
        refine gI (q := 201) dX12_next_198 gfX12_77 k211 rfl rfl ?_
        refine Ev.iconst (q := 202) dX12_next_201 ki_1 rfl ?_
        refine Ev.iadd (q := 203) dX12_next_202 rfl ?_
        refine pI (q := 206) dX12_next_203 gfX12_77 k211 rfl rfl ?_
        refine Ev.goto (q := 146) dX12_next_206 (by decide) ?_
        rw [h7, w32_of (by omega) (by omega)]
        refine ih (b + 1) _ (by have := hsm.1; omega) (by have := hsm.1; omega) (by omega) (hF.up rfl) (by rw [up_k _ _ (by decide)]; exact h6) (up_eq _ _ _ _) (by rw [up_k _ _ (by decide), h10, show min 3 (b + 1 - a) = min 3 (b - a) by omega]) (fun i hi => ?_) ?_
        · by_cases e : a + i = b
          · rw [e]; exact (isDg_iff _).mp hsm.2
          · exact hdg i (by omega)
        · rw [← rE_in hsm.1 hsm.2]
          exact kont
      · skip
        refine Ev.aload_n (q := 174) dX12_next_173 rfl rfl ?_
        refine Ev.bipush (q := 176) dX12_next_174 kb_10 rfl ?_
        refine Ev.aload_n (q := 177) dX12_next_176 rfl rfl ?_
        refine gI (q := 180) dX12_next_177 gfX12_97 k211 rfl rfl ?_
        rw [h10]
        refine Ev.imul (q := 181) dX12_next_180 rfl ?_
        refine Ev.aload_n (q := 182) dX12_next_181 rfl rfl ?_
        refine Ev.aload_n (q := 183) dX12_next_182 rfl rfl ?_
        refine gI (q := 186) dX12_next_183 gfX12_77 k211 rfl rfl ?_
        rw [h7]
        refine cV1i (q := 189) (d' := d + 4) dX12_next_186 mlX12_80 moX12_see mvX12_see k211 rfl rfl rfl (Nat.le_refl _) rfl rfl rfl (p_X12_see b N f8 hN) (fun r5 m5 e5 => ?_)
        obtain ⟨rfl, e5⟩ := e5
        obtain rfl := e5.symm
        rw [f14]
        rw [if_pos hsm.1]
        have hd3 := dig_rng (tx := tx) (a := a) (min 3 (b - a)) (fun i hi => hdg i (by omega))
        have hm3 : min 3 (b - a) = b - a := by omega
        have hp3 : (10 : Int) ^ (b - a) ≤ 100 := by
          rcases (show b - a = 0 ∨ b - a = 1 ∨ b - a = 2 by omega) with e | e | e <;> rw [e] <;> decide
        rw [hm3] at hd3
        refine Ev.iadd (q := 190) dX12_next_189 rfl ?_
        refine Ev.bipush (q := 192) dX12_next_190 kb_48 rfl ?_
        refine Ev.isub (q := 193) dX12_next_192 rfl ?_
        rw [hm3, w32_of (z := 10 * dig tx a (b - a)) (by omega) (by omega), w32_of (z := 10 * dig tx a (b - a) + tx b) (by omega) (by omega), w32_of (by omega) (by omega)]
        refine pI (q := 196) dX12_next_193 gfX12_97 k211 rfl rfl ?_
        refine Ev.aload_n (q := 197) dX12_next_196 rfl rfl ?_
        refine Ev.dup (q := 198) dX12_next_197 (fun z => by cases z) rfl ?_
        refine gI (q := 201) dX12_next_198 gfX12_77 k211 rfl rfl ?_
        refine Ev.iconst (q := 202) dX12_next_201 ki_1 rfl ?_
        refine Ev.iadd (q := 203) dX12_next_202 rfl ?_
        refine pI (q := 206) dX12_next_203 gfX12_77 k211 rfl rfl ?_
        refine Ev.goto (q := 146) dX12_next_206 (by decide) ?_
        rw [up_k _ _ (by decide), h7, w32_of (by omega) (by omega)]
        refine ih (b + 1) _ (by have := hsm.1; omega) (by have := hsm.1; omega) (by omega) ((hF.up rfl).up rfl) (by rw [up_k _ _ (by decide), up_k _ _ (by decide)]; exact h6) (up_eq _ _ _ _) (by rw [up_k _ _ (by decide), up_eq, show min 3 (b + 1 - a) = (b - a) + 1 by omega]; show _ = 10 * dig tx a (b - a) + tx (a + (b - a)) - 48; rw [show a + (b - a) = b by omega]) (fun i hi => ?_) ?_
        · by_cases e : a + i = b
          · rw [e]; exact (isDg_iff _).mp hsm.2
          · exact hdg i (by omega)
        · rw [← rE_in hsm.1 hsm.2]
          exact kont
def sgF (c : Int) : Nat → Int
  | 0 => 25
  | k + 1 => if c = chS 20 k then 30 + (k : Int) else sgF c k
theorem sgF_V (c : Int) : sgF c 7 = sgnV c := by
  have e : chS 20 0 = 59 ∧ chS 20 1 = 58 ∧ chS 20 2 = 43 ∧ chS 20 3 = 45 ∧ chS 20 4 = 42 ∧ chS 20 5 = 40 ∧ chS 20 6 = 41 := by decide
  unfold sgF sgF sgF sgF sgF sgF sgF sgF
  rw [e.1, e.2.1, e.2.2.1, e.2.2.2.1, e.2.2.2.2.1, e.2.2.2.2.2.1, e.2.2.2.2.2.2]
  unfold sgnV
  repeat (first | rfl | omega | split)
theorem len20 : lenS.getD 20 0 = 7 := by decide +kernel
set_option maxRecDepth 4000 in
theorem l_nxG {Γ : Gm} {d : Nat} {m0 : Mem} (N : Nat) (tx : Nat → Int) (hN : N ≤ 900) (h8 : m0 211 8 = N) (htx : m0 214 = tx) (a : Nat) (haN : a < N) : ∀ (q k : Nat) (M : Mem), k + q = 7 → Fr sTk m0 M → M 211 6 = a → M 211 7 = ((a + 1 : Nat) : Int) → M 211 9 = sgF (tx a) k → Em Γ (d + 5) MX12_next (fun r m' => TkM m' (sgnV (tx a), a, a + 1, 0) ∧ Fr sTk m0 m') 254 [rv 211, iv k] [] M := by
  intro q
  induction q with
  | zero =>
    intro k M hk hF h6 h7 h9
    obtain rfl : k = 7 := by omega
    have f8 : M 211 8 = N := by rw [hF 211 8 rfl]; exact h8
    have f14 : M 214 = tx := by rw [hF.row 214 (fun _ => rfl)]; exact htx
    refine Ev.iload_n (q := 255) dX12_next_254 rfl rfl ?_
    refine Ev.ldcS (q := 257) dX12_next_255 (i := 20) rfl rfl ?_
    refine cVS (q := 260) (d' := d + 4) (i := 20) (As := []) (by decide) dX12_next_257 mlX12_64 moJ0_length_8abf5 mvJ0_length_8abf5 rfl rfl rfl rfl (Nat.le_refl _) rfl rfl rfl (p_J0_length_8abf5 20 (by decide)) (fun r1 m1 e1 => ?_)
    obtain ⟨rfl, e1⟩ := e1
    obtain rfl := e1.symm
    rw [len20]
    refine Ev.icmp_ge (tgt := 294) (q := 263) dX12_next_260 (by decide) rfl (fun h2 => ?_) (fun h2 => ?_)
    · skip
      refine rV dX12_next_294 rfl ?_
      exact ⟨⟨by rw [h9, sgF_V], h6, h7, fun z => by have := sgnV_rng (tx a); have z9 : sgnV (tx a) = 23 := z; omega⟩, hF⟩
    · skip
      omega
  | succ q ih =>
    intro k M hk hF h6 h7 h9
    have f8 : M 211 8 = N := by rw [hF 211 8 rfl]; exact h8
    have f14 : M 214 = tx := by rw [hF.row 214 (fun _ => rfl)]; exact htx
    refine Ev.iload_n (q := 255) dX12_next_254 rfl rfl ?_
    refine Ev.ldcS (q := 257) dX12_next_255 (i := 20) rfl rfl ?_
    refine cVS (q := 260) (d' := d + 4) (i := 20) (As := []) (by decide) dX12_next_257 mlX12_64 moJ0_length_8abf5 mvJ0_length_8abf5 rfl rfl rfl rfl (Nat.le_refl _) rfl rfl rfl (p_J0_length_8abf5 20 (by decide)) (fun r1 m1 e1 => ?_)
    obtain ⟨rfl, e1⟩ := e1
    obtain rfl := e1.symm
    rw [len20]
    refine Ev.icmp_ge (tgt := 294) (q := 263) dX12_next_260 (by decide) rfl (fun h2 => ?_) (fun h2 => ?_)
    · skip
      omega
    · skip
      refine Ev.aload_n (q := 264) dX12_next_263 rfl rfl ?_
      refine Ev.aload_n (q := 265) dX12_next_264 rfl rfl ?_
      refine gI (q := 268) dX12_next_265 gfX12_74 k211 rfl rfl ?_
      rw [h6]
      refine cV1i (q := 271) (d' := d + 4) dX12_next_268 mlX12_80 moX12_see mvX12_see k211 rfl rfl rfl (Nat.le_refl _) rfl rfl rfl (p_X12_see a N f8 hN) (fun r3 m3 e3 => ?_)
      obtain ⟨rfl, e3⟩ := e3
      obtain rfl := e3.symm
      rw [f14]
      rw [if_pos haN]
      refine Ev.ldcS (q := 273) dX12_next_271 (i := 20) rfl rfl ?_
      refine Ev.iload_n (q := 274) dX12_next_273 rfl rfl ?_
      refine cVS (q := 277) (d' := d + 4) (i := 20) (As := [_]) (by decide) dX12_next_274 mlX12_70 moJ0_charAt_5068e mvJ0_charAt_5068e rfl rfl rfl rfl (Nat.le_refl _) rfl rfl rfl (p_J0_charAt_5068e 20 k (by decide) (by rw [len20]; omega)) (fun r4 m4 e4 => ?_)
      obtain ⟨rfl, e4⟩ := e4
      obtain rfl := e4.symm
      refine Ev.icmp_ne (tgt := 288) (q := 280) dX12_next_277 (by decide) rfl (fun h5 => ?_) (fun h5 => ?_)
      · skip
        refine iinc_1 (q := 291) dX12_next_288 rfl rfl rfl ?_
        refine Ev.goto (q := 254) dX12_next_291 (by decide) ?_
        rw [w32_of (by omega) (by omega)]
        exact ih (k + 1) _ (by omega) hF h6 h7 (by rw [h9]; conv => rhs; unfold sgF; rw [if_neg (by assumption)])
      · skip
        refine Ev.aload_n (q := 281) dX12_next_280 rfl rfl ?_
        refine Ev.bipush (q := 283) dX12_next_281 kb_30 rfl ?_
        refine Ev.iload_n (q := 284) dX12_next_283 rfl rfl ?_
        refine Ev.iadd (q := 285) dX12_next_284 rfl ?_
        refine pI (q := 288) dX12_next_285 gfX12_84 k211 rfl rfl ?_
        refine iinc_1 (q := 291) dX12_next_288 rfl rfl rfl ?_
        refine Ev.goto (q := 254) dX12_next_291 (by decide) ?_
        rw [w32_of (z := (k : Int) + 1) (by omega) (by omega)]
        exact ih (k + 1) _ (by omega) (hF.up rfl) (by rw [up_k _ _ (by decide)]; exact h6) (by rw [up_k _ _ (by decide)]; exact h7) (by rw [up_eq, w32_of (by omega) (by omega)]; conv => rhs; unfold sgF; rw [if_pos (by assumption)])
set_option maxRecDepth 4000 in
theorem p_X12_next {Γ : Gm} {d : Nat} {m : Mem} (N p : Nat) (hN : N ≤ 900) (hp : p ≤ N) (h8 : m 211 8 = N) (h7 : m 211 7 = p) : Ci Γ (d + 5) MX12_next [rv 211] m (fun r m' => TkM m' (tokV (m 214) N p) ∧ Fr sTk m m') := by
  refine Ci.of moX12_next rfl rfl (fun hA hM => ?_)
  show Em Γ (d + 5) MX12_next _ 0 [rv 211, uv] [] m
  refine Ev.aload_n (q := 1) dX12_next_0 rfl rfl ?_
  refine Ev.aload_n (q := 2) dX12_next_1 rfl rfl ?_
  refine gI (q := 5) dX12_next_2 gfX12_77 k211 rfl rfl ?_
  rw [h7]
  refine pI (q := 8) dX12_next_5 gfX12_74 k211 rfl rfl ?_
  refine l_nxA (Γ := Γ) (d := d) (m0 := m) N (m 214) hN h8 rfl (N - p + 1) p _ (by omega) hp ((Fr.rf _ _).up rfl) (up_eq _ _ _ _) (fun M hF h6 => ?_)
  refine Ev.aload_n (q := 48) dX12_next_47 rfl rfl ?_
  refine Ev.aload_n (q := 49) dX12_next_48 rfl rfl ?_
  refine gI (q := 52) dX12_next_49 gfX12_74 k211 rfl rfl ?_
  rw [h6]
  refine pI (q := 55) dX12_next_52 gfX12_77 k211 rfl rfl ?_
  have hF1 := hF.up (x := ((rE isSp (m 214) N p : Nat) : Int)) (show sTk 211 7 = true from rfl)
  obtain ⟨M1, hM1⟩ : ∃ M1, M1 = up M 211 7 ((rE isSp (m 214) N p : Nat) : Int) := ⟨_, rfl⟩
  rw [← hM1] at hF1 ⊢
  have k6 : M1 211 6 = (rE isSp (m 214) N p : Nat) := by rw [hM1, up_k _ _ (by decide)]; exact h6
  have k7 : M1 211 7 = (rE isSp (m 214) N p : Nat) := by rw [hM1, up_eq]
  have f8 : M1 211 8 = N := by rw [hF1 211 8 rfl]; exact h8
  have f14 : M1 214 = m 214 := hF1.row 214 (fun _ => rfl)
  have hle := rE_le isSp (m 214) N p
  have htok : tokV (m 214) N p = (if N ≤ rE isSp (m 214) N p then (24, rE isSp (m 214) N p, rE isSp (m 214) N p, 0) else
    if isSm (m 214 (rE isSp (m 214) N p)) = true then (keyV (m 214) (rE isSp (m 214) N p) (rE isSm (m 214) N (rE isSp (m 214) N p)), rE isSp (m 214) N p, rE isSm (m 214) N (rE isSp (m 214) N p), 0) else
    if isDg (m 214 (rE isSp (m 214) N p)) = true then ((if 3 < rE isDg (m 214) N (rE isSp (m 214) N p) - rE isSp (m 214) N p then 25 else 23), rE isSp (m 214) N p, rE isDg (m 214) N (rE isSp (m 214) N p), dig (m 214) (rE isSp (m 214) N p) (min 3 (rE isDg (m 214) N (rE isSp (m 214) N p) - rE isSp (m 214) N p))) else
    (sgnV (m 214 (rE isSp (m 214) N p)), rE isSp (m 214) N p, rE isSp (m 214) N p + 1, 0)) := rfl
  generalize rE isSp (m 214) N p = a at *
  have haN := hle.2 hp
  refine Ev.aload_n (q := 56) dX12_next_55 rfl rfl ?_
  refine gI (q := 59) dX12_next_56 gfX12_74 k211 rfl rfl ?_
  refine Ev.aload_n (q := 60) dX12_next_59 rfl rfl ?_
  refine gI (q := 63) dX12_next_60 gfX12_59 k211 rfl rfl ?_
  rw [k6, f8]
  refine Ev.icmp_lt (tgt := 75) (q := 66) dX12_next_63 (by decide) rfl (fun h1 => ?_) (fun h1 => ?_)
  · skip
    have hlt : a < N := by omega
    rw [if_neg (by omega)] at htok
    refine Ev.aload_n (q := 76) dX12_next_75 rfl rfl ?_
    refine Ev.aload_n (q := 77) dX12_next_76 rfl rfl ?_
    refine gI (q := 80) dX12_next_77 gfX12_74 k211 rfl rfl ?_
    rw [k6]
    refine cV1i (q := 83) (d' := d + 4) dX12_next_80 mlX12_80 moX12_see mvX12_see k211 rfl rfl rfl (Nat.le_refl _) rfl rfl rfl (p_X12_see a N f8 hN) (fun r2 m2 e2 => ?_)
    obtain ⟨rfl, e2⟩ := e2
    obtain rfl := e2.symm
    rw [f14, if_pos hlt]
    refine cS1i (q := 86) (d' := d + 4) dX12_next_83 mlX12_87 moX12_isSmall msX12_isSmall rfl rfl (Nat.le_refl _) rfl rfl rfl (p_X12_isSmall _) (fun r3 m3 e3 => ?_)
    obtain ⟨rfl, e3⟩ := e3
    obtain rfl := e3.symm
    refine Ev.if_eq (tgt := 127) (q := 89) dX12_next_86 (by decide) rfl (fun h4 => ?_) (fun h4 => ?_)
    · skip
      have hns : ¬ isSm (m 214 a) = true := fun z => by rw [if_pos ((isSm_iff _).mp z)] at h4; exact absurd h4 (by decide)
      rw [if_neg hns] at htok
      refine Ev.aload_n (q := 128) dX12_next_127 rfl rfl ?_
      refine Ev.aload_n (q := 129) dX12_next_128 rfl rfl ?_
      refine gI (q := 132) dX12_next_129 gfX12_74 k211 rfl rfl ?_
      rw [k6]
      refine cV1i (q := 135) (d' := d + 4) dX12_next_132 mlX12_80 moX12_see mvX12_see k211 rfl rfl rfl (Nat.le_refl _) rfl rfl rfl (p_X12_see a N f8 hN) (fun r5 m5 e5 => ?_)
      obtain ⟨rfl, e5⟩ := e5
      obtain rfl := e5.symm
      rw [f14, if_pos hlt]
      refine cS1i (q := 138) (d' := d + 4) dX12_next_135 mlX12_94 moX12_isDigit msX12_isDigit rfl rfl (Nat.le_refl _) rfl rfl rfl (p_X12_isDigit _) (fun r6 m6 e6 => ?_)
      obtain ⟨rfl, e6⟩ := e6
      obtain rfl := e6.symm
      refine Ev.if_eq (tgt := 236) (q := 141) dX12_next_138 (by decide) rfl (fun h7 => ?_) (fun h7 => ?_)
      · skip
        have hnd : ¬ isDg (m 214 a) = true := fun z => by rw [if_pos ((isDg_iff _).mp z)] at h7; exact absurd h7 (by decide)
        rw [if_neg hnd] at htok
        refine Ev.aload_n (q := 237) dX12_next_236 rfl rfl ?_
        refine Ev.dup (q := 238) dX12_next_237 (fun z => by cases z) rfl ?_
        refine gI (q := 241) dX12_next_238 gfX12_77 k211 rfl rfl ?_
        refine Ev.iconst (q := 242) dX12_next_241 ki_1 rfl ?_
        rw [k7]
        refine Ev.iadd (q := 243) dX12_next_242 rfl ?_
        rw [w32_of (by omega) (by omega)]
        refine pI (q := 246) dX12_next_243 gfX12_77 k211 rfl rfl ?_
        refine Ev.aload_n (q := 247) dX12_next_246 rfl rfl ?_
        refine Ev.bipush (q := 249) dX12_next_247 kb_25 rfl ?_
        refine pI (q := 252) dX12_next_249 gfX12_84 k211 rfl rfl ?_
        refine Ev.iconst (q := 253) dX12_next_252 ki_0 rfl ?_
        refine istore_n_1 (q := 254) dX12_next_253 rfl rfl rfl ?_
        rw [htok]
        exact l_nxG (Γ := Γ) (d := d) (m0 := m) N (m 214) hN h8 rfl a hlt 7 0 _ (by omega) ((hF1.up rfl).up rfl) (by rw [up_k _ _ (by decide), up_k _ _ (by decide)]; exact k6) (by rw [up_k _ _ (by decide), up_eq]; omega) (by rw [up_eq]; rfl)
      · skip
        have hdg : isDg (m 214 a) = true := (isDg_iff _).mpr (by split at h7 <;> first | assumption | exact absurd rfl h7)
        rw [if_pos hdg] at htok
        refine Ev.aload_n (q := 142) dX12_next_141 rfl rfl ?_
        refine Ev.iconst (q := 143) dX12_next_142 ki_0 rfl ?_
        refine pI (q := 146) dX12_next_143 gfX12_97 k211 rfl rfl ?_
        refine l_nxD (Γ := Γ) (d := d) (m0 := m) N (m 214) hN h8 rfl a (N - a + 1) a _ (by omega) haN (Nat.le_refl _) (hF1.up rfl) (by rw [up_k _ _ (by decide)]; exact k6) (by rw [up_k _ _ (by decide)]; exact k7) (by rw [up_eq, show min 3 (a - a) = 0 by omega]; rfl) (fun i hi => by omega) (fun M9 hF9 j6 j7 j10 => ?_)
        have hrd := rE_le isDg (m 214) N a
        have hrd2 := hrd.2 haN
        refine Ev.aload_n (q := 210) dX12_next_209 rfl rfl ?_
        refine Ev.aload_n (q := 211) dX12_next_210 rfl rfl ?_
        refine gI (q := 214) dX12_next_211 gfX12_77 k211 rfl rfl ?_
        refine Ev.aload_n (q := 215) dX12_next_214 rfl rfl ?_
        refine gI (q := 218) dX12_next_215 gfX12_74 k211 rfl rfl ?_
        refine Ev.isub (q := 219) dX12_next_218 rfl ?_
        refine Ev.iconst (q := 220) dX12_next_219 ki_3 rfl ?_
        rw [j7, j6, w32_of (by omega) (by omega)]
        refine Ev.icmp_le (tgt := 228) (q := 223) dX12_next_220 (by decide) rfl (fun h1 => ?_) (fun h1 => ?_)
        · skip
          refine Ev.bipush (q := 230) dX12_next_228 kb_23 rfl ?_
          refine pI (q := 233) dX12_next_230 gfX12_84 k211 rfl rfl ?_
          refine Ev.goto (q := 294) dX12_next_233 (by decide) ?_
          refine rV dX12_next_294 rfl ?_
          rw [htok, if_neg (by omega)]
          refine ⟨⟨up_eq _ _ _ _, ?_, ?_, fun _ => ?_⟩, hF9.up rfl⟩
          · rw [up_k _ _ (by decide)]; exact j6
          · rw [up_k _ _ (by decide)]; exact j7
          · rw [up_k _ _ (by decide)]; exact j10
        · skip
          refine Ev.bipush (q := 225) dX12_next_223 kb_25 rfl ?_
          refine Ev.goto (q := 230) dX12_next_225 (by decide) ?_
          refine pI (q := 233) dX12_next_230 gfX12_84 k211 rfl rfl ?_
          refine Ev.goto (q := 294) dX12_next_233 (by decide) ?_
          refine rV dX12_next_294 rfl ?_
          rw [htok, if_pos (by omega)]
          refine ⟨⟨up_eq _ _ _ _, ?_, ?_, fun z => absurd z (by show ¬ (25 : Int) = 23; decide)⟩, hF9.up rfl⟩
          · rw [up_k _ _ (by decide)]; exact j6
          · rw [up_k _ _ (by decide)]; exact j7
    · skip
      have hsm : isSm (m 214 a) = true := (isSm_iff _).mpr (by split at h4 <;> first | assumption | exact absurd rfl h4)
      rw [if_pos hsm] at htok
      refine l_nxS (Γ := Γ) (d := d) (m0 := m) N (m 214) hN h8 rfl a (N - a + 1) a M1 (by omega) haN hF1 k6 k7 (fun M9 hF9 j6 j7 => ?_)
      refine Ev.aload_n (q := 117) dX12_next_116 rfl rfl ?_
      refine Ev.aload_n (q := 118) dX12_next_117 rfl rfl ?_
      refine cV0i (q := 121) (d' := d + 4) dX12_next_118 mlX12_91 moX12_keyAt mvX12_keyAt k211 rfl rfl rfl (Nat.le_refl _) rfl rfl rfl (p_X12_keyAt a (rE isSm (m 214) N a) (rE_le _ _ _ _).1 (by have := (rE_le isSm (m 214) N a).2 haN; omega) j6 j7) (fun r1 m1 e1 => ?_)
      obtain ⟨rfl, e1⟩ := e1
      obtain rfl := e1.symm
      refine pI (q := 124) dX12_next_121 gfX12_84 k211 rfl rfl ?_
      refine Ev.goto (q := 294) dX12_next_124 (by decide) ?_
      refine rV dX12_next_294 rfl ?_
      rw [htok]
      refine ⟨⟨?_, ?_, ?_, fun z => ?_⟩, hF9.up rfl⟩
      · rw [up_eq, show M9 214 = m 214 from hF9.row 214 (fun _ => rfl)]
      · rw [up_k _ _ (by decide)]; exact j6
      · rw [up_k _ _ (by decide)]; exact j7
      · have h3 := keyV_rng (m 214) a (rE isSm (m 214) N a)
        have z9 : keyV (m 214) a (rE isSm (m 214) N a) = 23 := z
        omega
  · skip
    have hge : N ≤ a := by omega
    rw [if_pos hge] at htok
    refine Ev.aload_n (q := 67) dX12_next_66 rfl rfl ?_
    refine Ev.bipush (q := 69) dX12_next_67 kb_24 rfl ?_
    refine pI (q := 72) dX12_next_69 gfX12_84 k211 rfl rfl ?_
    refine Ev.goto (q := 294) dX12_next_72 (by decide) ?_
    refine rV dX12_next_294 rfl ?_
    rw [htok]
    refine ⟨⟨up_eq _ _ _ _, ?_, ?_, fun z => absurd z (by show ¬ (24 : Int) = 23; decide)⟩, hF1.up rfl⟩
    · rw [up_k _ _ (by decide)]; exact k6
    · rw [up_k _ _ (by decide)]; exact k7
