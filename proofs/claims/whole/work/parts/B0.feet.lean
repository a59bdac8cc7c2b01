/-! ===== the class: tables are filled ===== -/
def sFf (a k : Nat) : Bool := decide ((10 ≤ a ∧ a ≤ 12) ∨ (25 ≤ a ∧ a ≤ 28))
theorem sFf_t {a k : Nat} (h : (10 ≤ a ∧ a ≤ 12) ∨ (25 ≤ a ∧ a ≤ 28)) : sFf a k = true := decide_eq_true h
theorem sFf_f {a k : Nat} (h : ¬ ((10 ≤ a ∧ a ≤ 12) ∨ (25 ≤ a ∧ a ≤ 28))) : sFf a k = false := decide_eq_false h
theorem sFf_n {a k : Nat} (h : sFf a k = false) : ¬ ((10 ≤ a ∧ a ≤ 12) ∨ (25 ≤ a ∧ a ≤ 28)) := of_decide_eq_false h
theorem Fr.scg {m m' : Mem} (h : Fr (sSc 25) m m') : Fr sFf m m' := h.mono (fun a k q => sSc_f (by have := sFf_n q; omega))
theorem Fr.ffp {m m' : Mem} (h : Fr sFf m m') : Fr sPc m m' := h.mono (fun a k q => sFf_f (by have := sPc_n q; omega))
def FTd (M : Mem) (f : Row) (p j : Nat) : Prop := ∀ q i : Nat, (i : Int) < f 1 → (q < p ∨ (q = p ∧ i < j)) → M 10 (q * 12 + i) = stepV f q i 1 ∧ M 11 (q * 12 + i) = stepV f q i 0
def HTd (M : Mem) (f : Row) (p j : Nat) : Prop := ∀ q i : Nat, (i : Int) < f 1 → (q < p ∨ (q = p ∧ i < j)) → M 12 (q * 12 + i) = footV f q i (f (28 + q)).toNat
def STd (M : Mem) (f : Row) (l i n : Nat) : Prop := ∀ a b c : Nat, 1 ≤ c → c < 12 → (b : Int) < f 1 → (a < l ∨ (a = l ∧ (b < i ∨ (b = i ∧ c < n)))) → M 13 ((a * 12 + b) * 12 + c) = stopV f a b c
theorem FTd.step {M M' : Mem} {f : Row} {p j : Nat} (h : FTd M f p j) (hF : f 1 ≤ 12) (hj : j < 12) (ho : ∀ k, k ≠ p * 12 + j → M' 10 k = M 10 k ∧ M' 11 k = M 11 k) (e1 : M' 10 (p * 12 + j) = stepV f p j 1) (e2 : M' 11 (p * 12 + j) = stepV f p j 0) : FTd M' f p (j + 1) := by
  intro q i hi hq
  by_cases e : q = p ∧ i = j
  · obtain ⟨rfl, rfl⟩ := e; exact ⟨e1, e2⟩
  · obtain ⟨o1, o2⟩ := ho (q * 12 + i) (by omega)
    rw [o1, o2]
    exact h q i hi (by omega)
theorem HTd.step {M M' : Mem} {f : Row} {p j : Nat} (h : HTd M f p j) (hF : f 1 ≤ 12) (hj : j < 12) (ho : ∀ k, k ≠ p * 12 + j → M' 12 k = M 12 k) (e1 : M' 12 (p * 12 + j) = footV f p j (f (28 + p)).toNat) : HTd M' f p (j + 1) := by
  intro q i hi hq
  by_cases e : q = p ∧ i = j
  · obtain ⟨rfl, rfl⟩ := e; exact e1
  · rw [ho (q * 12 + i) (by omega)]
    exact h q i hi (by omega)
theorem STd.step {M M' : Mem} {f : Row} {l i n : Nat} (h : STd M f l i n) (hF : f 1 ≤ 12) (hi : i < 12) (hn : n < 12) (ho : ∀ k, k ≠ (l * 12 + i) * 12 + n → M' 13 k = M 13 k) (e1 : M' 13 ((l * 12 + i) * 12 + n) = stopV f l i n) : STd M' f l i (n + 1) := by
  intro a b c h1 h2 h3 hq
  by_cases e : a = l ∧ b = i ∧ c = n
  · obtain ⟨rfl, rfl, rfl⟩ := e; exact e1
  · rw [ho ((a * 12 + b) * 12 + c) (by omega)]
    exact h a b c h1 h2 h3 (by omega)
theorem FTd.up {M : Mem} {f : Row} {p j a k : Nat} {x : Int} (h : FTd M f p j) (ha : a ≠ 10 ∧ a ≠ 11) : FTd (up M a k x) f p j := fun q i hi hq => by rw [up_o _ _ (by omega), up_o _ _ (by omega)]; exact h q i hi hq
set_option maxRecDepth 4000 in
theorem lc_feet1 {Γ : Gm} {d : Nat} {m0 : Mem} {Po : Int → Mem → Prop} (f : Row) (p : Nat) (hH : RH f) (h9 : f 457 ≤ 900) (hp : (p : Int) < f 3) (kont : ∀ (M : Mem) (v2 : Vl), RC M f (f 2).toNat (f 3).toNat → FTd M f (p + 1) 0 → Fr sFf m0 M → Em Γ (d + 5) MX6_fillFeet Po 104 [rv 2, iv p, v2] [] M) : ∀ (n j : Nat) (M : Mem), (j : Int) + n = f 1 → RC M f (f 2).toNat (f 3).toNat → FTd M f p j → Fr sFf m0 M → Em Γ (d + 5) MX6_fillFeet Po 15 [rv 2, iv p, iv j] [] M := by
  have hF12 := hH.1.1
  have hp8 := hH.1.2.2
  have h4x : f 4 = 0 ∨ f 4 = 1 := by
    rcases hH.2.2.2.2.2 0 (by decide) with z | ⟨z, -⟩
    · exact Or.inl z
    · exact Or.inr z
  intro n
  induction n with
  | zero =>
    intro j M hj hR hTd hF
    refine Ev.iload_n (q := 16) dX6_fillFeet_15 rfl rfl ?_
    refine Ev.aload_n (q := 17) dX6_fillFeet_16 rfl rfl ?_
    refine gR (q := 20) dX6_fillFeet_17 gfX6_12 k2 r2_0 rfl rfl ?_
    refine gI (q := 23) dX6_fillFeet_20 gfX6_73 k3 rfl rfl ?_
    rw [hR.1.1]
    refine Ev.icmp_ge (tgt := 104) (q := 26) dX6_fillFeet_23 (by decide) rfl (fun h1 => ?_) (fun h1 => ?_)
    · skip
      exact kont M _ hR (fun q i hi hq => hTd q i hi (by omega)) hF
    · skip
      omega
  | succ n ih =>
    intro j M hj hR hTd hF
    have hT0 : M 25 0 = f 4 := hR.2.2.2.2.1.1
    refine Ev.iload_n (q := 16) dX6_fillFeet_15 rfl rfl ?_
    refine Ev.aload_n (q := 17) dX6_fillFeet_16 rfl rfl ?_
    refine gR (q := 20) dX6_fillFeet_17 gfX6_12 k2 r2_0 rfl rfl ?_
    refine gI (q := 23) dX6_fillFeet_20 gfX6_73 k3 rfl rfl ?_
    rw [hR.1.1]
    refine Ev.icmp_ge (tgt := 104) (q := 26) dX6_fillFeet_23 (by decide) rfl (fun h1 => ?_) (fun h1 => ?_)
    · skip
      omega
    · skip
      refine Ev.aload_n (q := 27) dX6_fillFeet_26 rfl rfl ?_
      refine gR (q := 30) dX6_fillFeet_27 gfX6_12 k2 r2_0 rfl rfl ?_
      refine gR (q := 33) dX6_fillFeet_30 gfX6_257 k3 r3_10 rfl rfl ?_
      refine Ev.iload_n (q := 34) dX6_fillFeet_33 rfl rfl ?_
      refine Ev.bipush (q := 36) dX6_fillFeet_34 kb_12 rfl ?_
      refine Ev.imul (q := 37) dX6_fillFeet_36 rfl ?_
      refine Ev.iload_n (q := 38) dX6_fillFeet_37 rfl rfl ?_
      refine Ev.iadd (q := 39) dX6_fillFeet_38 rfl ?_
      refine Ev.aload_n (q := 40) dX6_fillFeet_39 rfl rfl ?_
      refine gR (q := 43) dX6_fillFeet_40 gfX6_46 k2 r2_6 rfl rfl ?_
      refine gI (q := 46) dX6_fillFeet_43 gfX6_56 k25 rfl rfl ?_
      rw [hT0]
      refine Ev.if_eq (tgt := 59) (q := 49) dX6_fillFeet_46 (by decide) rfl (fun h2 => ?_) (fun h2 => ?_)
      · skip
        have h40 : f 4 = 0 := by omega
        refine Ev.bipush (q := 61) dX6_fillFeet_59 kb_10 rfl ?_
        refine sI (q := 62) (k := p * 12 + j) dX6_fillFeet_61 k10 (by rw [w32_of (z := (p : Int) * 12) (by omega) (by omega), w32_of (by omega) (by omega)]; omega) (by omega) rfl ?_
        refine Ev.aload_n (q := 63) dX6_fillFeet_62 rfl rfl ?_
        refine gR (q := 66) dX6_fillFeet_63 gfX6_12 k2 r2_0 rfl rfl ?_
        refine gR (q := 69) dX6_fillFeet_66 gfX6_264 k3 r3_11 rfl rfl ?_
        refine Ev.iload_n (q := 70) dX6_fillFeet_69 rfl rfl ?_
        refine Ev.bipush (q := 72) dX6_fillFeet_70 kb_12 rfl ?_
        refine Ev.imul (q := 73) dX6_fillFeet_72 rfl ?_
        refine Ev.iload_n (q := 74) dX6_fillFeet_73 rfl rfl ?_
        refine Ev.iadd (q := 75) dX6_fillFeet_74 rfl ?_
        refine Ev.aload_n (q := 76) dX6_fillFeet_75 rfl rfl ?_
        refine gR (q := 79) dX6_fillFeet_76 gfX6_46 k2 r2_6 rfl rfl ?_
        refine gI (q := 82) dX6_fillFeet_79 gfX6_56 k25 rfl rfl ?_
        rw [up_o _ _ (by decide), hT0]
        refine Ev.if_eq (tgt := 95) (q := 85) dX6_fillFeet_82 (by decide) rfl (fun h61 => ?_) (fun h61 => ?_)
        · skip
          refine Ev.bipush (q := 97) dX6_fillFeet_95 kb_6 rfl ?_
          refine sI (q := 98) (k := p * 12 + j) dX6_fillFeet_97 k11 (by rw [w32_of (z := (p : Int) * 12) (by omega) (by omega), w32_of (by omega) (by omega)]; omega) (by omega) rfl ?_
          refine iinc_2 (q := 101) dX6_fillFeet_98 rfl rfl rfl ?_
          refine Ev.goto (q := 15) dX6_fillFeet_101 (by decide) ?_
          rw [w32_of (by omega) (by omega)]
          exact ih (j + 1) _ (by omega) ((hR.tab (by omega) _ _).tab (by omega) _ _) (hTd.step hF12.2 (by omega) (fun k hk => ⟨by rw [up_o _ _ (by decide), up_k _ _ hk], by rw [up_k _ _ hk, up_o _ _ (by decide)]⟩) (by rw [up_o _ _ (by decide), up_eq]; unfold stepV; rw [if_pos h40, if_pos rfl]) (by rw [up_eq]; unfold stepV; rw [if_pos h40, if_neg (by decide)])) ((hF.up (sFf_t (by omega))).up (sFf_t (by omega)))
        · skip
          omega
      · skip
        have h41 : f 4 = 1 := by omega
        refine Ev.aload_n (q := 50) dX6_fillFeet_49 rfl rfl ?_
        refine Ev.iload_n (q := 51) dX6_fillFeet_50 rfl rfl ?_
        refine Ev.iload_n (q := 52) dX6_fillFeet_51 rfl rfl ?_
        refine Ev.iconst (q := 53) dX6_fillFeet_52 ki_1 rfl ?_
        refine cV3i (q := 56) (d' := d + 4) dX6_fillFeet_53 mlX6_260 moX6_footSeconds mvX6_footSeconds k2 rfl rfl rfl (Nat.le_refl _) rfl rfl rfl (p_X6_footSeconds f p j 1 hR hH h9 h41 hp (by omega) (Or.inr rfl)) (fun r3 m3 e3 => ?_)
        obtain ⟨M9, rfl⟩ : ∃ M9, M9 = m3 := ⟨_, rfl⟩
        obtain ⟨y9, hR9, f9⟩ := e3
        rw [y9]
        have hT9 : M9 25 0 = f 4 := hR9.2.2.2.2.1.1
        refine Ev.goto (q := 61) dX6_fillFeet_56 (by decide) ?_
        refine sI (q := 62) (k := p * 12 + j) dX6_fillFeet_61 k10 (by rw [w32_of (z := (p : Int) * 12) (by omega) (by omega), w32_of (by omega) (by omega)]; omega) (by omega) rfl ?_
        refine Ev.aload_n (q := 63) dX6_fillFeet_62 rfl rfl ?_
        refine gR (q := 66) dX6_fillFeet_63 gfX6_12 k2 r2_0 rfl rfl ?_
        refine gR (q := 69) dX6_fillFeet_66 gfX6_264 k3 r3_11 rfl rfl ?_
        refine Ev.iload_n (q := 70) dX6_fillFeet_69 rfl rfl ?_
        refine Ev.bipush (q := 72) dX6_fillFeet_70 kb_12 rfl ?_
        refine Ev.imul (q := 73) dX6_fillFeet_72 rfl ?_
        refine Ev.iload_n (q := 74) dX6_fillFeet_73 rfl rfl ?_
        refine Ev.iadd (q := 75) dX6_fillFeet_74 rfl ?_
        refine Ev.aload_n (q := 76) dX6_fillFeet_75 rfl rfl ?_
        refine gR (q := 79) dX6_fillFeet_76 gfX6_46 k2 r2_6 rfl rfl ?_
        refine gI (q := 82) dX6_fillFeet_79 gfX6_56 k25 rfl rfl ?_
        rw [up_o _ _ (by decide), hT9]
        refine Ev.if_eq (tgt := 95) (q := 85) dX6_fillFeet_82 (by decide) rfl (fun h61 => ?_) (fun h61 => ?_)
        · skip
          omega
        · skip
          refine Ev.aload_n (q := 86) dX6_fillFeet_85 rfl rfl ?_
          refine Ev.iload_n (q := 87) dX6_fillFeet_86 rfl rfl ?_
          refine Ev.iload_n (q := 88) dX6_fillFeet_87 rfl rfl ?_
          refine Ev.iconst (q := 89) dX6_fillFeet_88 ki_0 rfl ?_
          refine cV3i (q := 92) (d' := d + 4) dX6_fillFeet_89 mlX6_260 moX6_footSeconds mvX6_footSeconds k2 rfl rfl rfl (Nat.le_refl _) rfl rfl rfl (p_X6_footSeconds f p j 0 (hR9.tab (by omega) _ _) hH h9 h41 hp (by omega) (Or.inl rfl)) (fun r62 m62 e62 => ?_)
          obtain ⟨M8, rfl⟩ : ∃ M8, M8 = m62 := ⟨_, rfl⟩
          obtain ⟨y8, hR8, f8⟩ := e62
          rw [y8]
          refine Ev.goto (q := 97) dX6_fillFeet_92 (by decide) ?_
          refine sI (q := 98) (k := p * 12 + j) dX6_fillFeet_97 k11 (by rw [w32_of (z := (p : Int) * 12) (by omega) (by omega), w32_of (by omega) (by omega)]; omega) (by omega) rfl ?_
          refine iinc_2 (q := 101) dX6_fillFeet_98 rfl rfl rfl ?_
          refine Ev.goto (q := 15) dX6_fillFeet_101 (by decide) ?_
          rw [w32_of (by omega) (by omega)]
          exact ih (j + 1) _ (by omega) (hR8.tab (by omega) _ _) (hTd.step hF12.2 (by omega) (fun k hk => ⟨by rw [up_o _ _ (by decide), f8.row 10 (fun _ => sSc_f (by omega)), up_k _ _ hk, f9.row 10 (fun _ => sSc_f (by omega))], by rw [up_k _ _ hk, f8.row 11 (fun _ => sSc_f (by omega)), up_o _ _ (by decide), f9.row 11 (fun _ => sSc_f (by omega))]⟩) (by rw [up_o _ _ (by decide), f8.row 10 (fun _ => sSc_f (by omega)), up_eq]) (up_eq _ _ _ _)) ((((hF.tr (f9.scg)).up (sFf_t (by omega))).tr (f8.scg)).up (sFf_t (by omega)))
set_option maxRecDepth 4000 in
theorem lc_feet2 {Γ : Gm} {d : Nat} {m0 : Mem} {Po : Int → Mem → Prop} (f : Row) (hH : RH f) (h9 : f 457 ≤ 900) (kont : ∀ (M : Mem) (v1 v2 : Vl), RC M f (f 2).toNat (f 3).toNat → FTd M f (f 3).toNat 0 → Fr sFf m0 M → Em Γ (d + 5) MX6_fillFeet Po 110 [rv 2, v1, v2] [] M) : ∀ (n p : Nat) (M : Mem) (v2 : Vl), (p : Int) + n = f 3 → RC M f (f 2).toNat (f 3).toNat → FTd M f p 0 → Fr sFf m0 M → Em Γ (d + 5) MX6_fillFeet Po 2 [rv 2, iv p, v2] [] M := by
  have hF12 := hH.1.1
  have hp8 := hH.1.2.2
  intro n
  induction n with
  | zero =>
    intro p M v2 hp hR hTd hF
    refine Ev.iload_n (q := 3) dX6_fillFeet_2 rfl rfl ?_
    refine Ev.aload_n (q := 4) dX6_fillFeet_3 rfl rfl ?_
    refine gR (q := 7) dX6_fillFeet_4 gfX6_12 k2 r2_0 rfl rfl ?_
    refine gI (q := 10) dX6_fillFeet_7 gfX6_174 k3 rfl rfl ?_
    rw [hR.1.2.2.2]
    refine Ev.icmp_ge (tgt := 110) (q := 13) dX6_fillFeet_10 (by decide) rfl (fun h1 => ?_) (fun h1 => ?_)
    · skip
      exact kont M _ _ hR (fun q i hi hq => hTd q i hi (by omega)) hF
    · skip
      omega
  | succ n ih =>
    intro p M v2 hp hR hTd hF
    refine Ev.iload_n (q := 3) dX6_fillFeet_2 rfl rfl ?_
    refine Ev.aload_n (q := 4) dX6_fillFeet_3 rfl rfl ?_
    refine gR (q := 7) dX6_fillFeet_4 gfX6_12 k2 r2_0 rfl rfl ?_
    refine gI (q := 10) dX6_fillFeet_7 gfX6_174 k3 rfl rfl ?_
    rw [hR.1.2.2.2]
    refine Ev.icmp_ge (tgt := 110) (q := 13) dX6_fillFeet_10 (by decide) rfl (fun h1 => ?_) (fun h1 => ?_)
    · skip
      omega
    · skip
      refine Ev.iconst (q := 14) dX6_fillFeet_13 ki_0 rfl ?_
      refine istore_n_2 (q := 15) dX6_fillFeet_14 rfl rfl rfl ?_
      refine lc_feet1 (m0 := m0) f p hH h9 (by omega) (fun M9 w2 hR9 hT9 hF9 => ?_) (f 1).toNat 0 M (by omega) hR hTd hF
      refine iinc_1 (q := 107) dX6_fillFeet_104 rfl rfl rfl ?_
      refine Ev.goto (q := 2) dX6_fillFeet_107 (by decide) ?_
      rw [w32_of (by omega) (by omega)]
      exact ih (p + 1) M9 w2 (by omega) hR9 hT9 hF9
set_option maxRecDepth 4000 in
theorem lc_feet3 {Γ : Gm} {d : Nat} {m0 : Mem} {Po : Int → Mem → Prop} (f : Row) (p : Nat) (hH : RH f) (hp : (p : Int) < f 3) (kont : ∀ (M : Mem) (v2 : Vl), RC M f (f 2).toNat (f 3).toNat → FTd M f (f 3).toNat 0 → HTd M f (p + 1) 0 → Fr sFf m0 M → Em Γ (d + 5) MX6_fillFeet Po 174 [rv 2, iv p, v2] [] M) : ∀ (n j : Nat) (M : Mem), (j : Int) + n = f 1 → RC M f (f 2).toNat (f 3).toNat → FTd M f (f 3).toNat 0 → HTd M f p j → Fr sFf m0 M → Em Γ (d + 5) MX6_fillFeet Po 125 [rv 2, iv p, iv j] [] M := by
  have hF12 := hH.1.1
  have hp8 := hH.1.2.2
  have hhm := (hH.2.2.1 p hp).1
  intro n
  induction n with
  | zero =>
    intro j M hj hR hTd hHd hF
    refine Ev.iload_n (q := 126) dX6_fillFeet_125 rfl rfl ?_
    refine Ev.aload_n (q := 127) dX6_fillFeet_126 rfl rfl ?_
    refine gR (q := 130) dX6_fillFeet_127 gfX6_12 k2 r2_0 rfl rfl ?_
    refine gI (q := 133) dX6_fillFeet_130 gfX6_73 k3 rfl rfl ?_
    rw [hR.1.1]
    refine Ev.icmp_ge (tgt := 174) (q := 136) dX6_fillFeet_133 (by decide) rfl (fun h1 => ?_) (fun h1 => ?_)
    · skip
      exact kont M _ hR hTd (fun q i hi hq => hHd q i hi (by omega)) hF
    · skip
      omega
  | succ n ih =>
    intro j M hj hR hTd hHd hF
    refine Ev.iload_n (q := 126) dX6_fillFeet_125 rfl rfl ?_
    refine Ev.aload_n (q := 127) dX6_fillFeet_126 rfl rfl ?_
    refine gR (q := 130) dX6_fillFeet_127 gfX6_12 k2 r2_0 rfl rfl ?_
    refine gI (q := 133) dX6_fillFeet_130 gfX6_73 k3 rfl rfl ?_
    rw [hR.1.1]
    refine Ev.icmp_ge (tgt := 174) (q := 136) dX6_fillFeet_133 (by decide) rfl (fun h1 => ?_) (fun h1 => ?_)
    · skip
      omega
    · skip
      refine Ev.aload_n (q := 137) dX6_fillFeet_136 rfl rfl ?_
      refine gR (q := 140) dX6_fillFeet_137 gfX6_12 k2 r2_0 rfl rfl ?_
      refine gR (q := 143) dX6_fillFeet_140 gfX6_267 k3 r3_12 rfl rfl ?_
      refine Ev.iload_n (q := 144) dX6_fillFeet_143 rfl rfl ?_
      refine Ev.bipush (q := 146) dX6_fillFeet_144 kb_12 rfl ?_
      refine Ev.imul (q := 147) dX6_fillFeet_146 rfl ?_
      refine Ev.iload_n (q := 148) dX6_fillFeet_147 rfl rfl ?_
      refine Ev.iadd (q := 149) dX6_fillFeet_148 rfl ?_
      refine Ev.aload_n (q := 150) dX6_fillFeet_149 rfl rfl ?_
      refine gR (q := 153) dX6_fillFeet_150 gfX6_12 k2 r2_0 rfl rfl ?_
      refine Ev.iload_n (q := 154) dX6_fillFeet_153 rfl rfl ?_
      refine Ev.iload_n (q := 155) dX6_fillFeet_154 rfl rfl ?_
      refine Ev.aload_n (q := 156) dX6_fillFeet_155 rfl rfl ?_
      refine gR (q := 159) dX6_fillFeet_156 gfX6_12 k2 r2_0 rfl rfl ?_
      refine gR (q := 162) dX6_fillFeet_159 gfX6_179 k3 r3_6 rfl rfl ?_
      refine Ev.iload_n (q := 163) dX6_fillFeet_162 rfl rfl ?_
      refine aI (q := 164) (k := p) dX6_fillFeet_163 k6 (by first | rfl | omega | (simp (disch := omega) only [w32_of]; omega)) (by omega) rfl ?_
      rw [(hR.2.2.2.1 p (by omega)).1, show f (28 + p) = (((f (28 + p)).toNat : Nat) : Int) by omega]
      refine cV3i (q := 167) (d' := d + 4) dX6_fillFeet_164 mlX6_270 moX1_onFoot mvX1_onFoot k3 rfl rfl rfl (Nat.le_refl _) rfl rfl rfl (p_X1_onFoot f 3 p j (f (28 + p)).toNat (f 1).toNat (by decide) (by omega) (by omega) (by omega) (by omega) (fun i hi => hTd p i (by omega) (by omega))) (fun r2 m2 e2 => ?_)
      obtain ⟨rfl, e2⟩ := e2
      obtain rfl := e2.symm
      refine sI (q := 168) (k := p * 12 + j) dX6_fillFeet_167 k12 (by rw [w32_of (z := (p : Int) * 12) (by omega) (by omega), w32_of (by omega) (by omega)]; omega) (by omega) rfl ?_
      refine iinc_2 (q := 171) dX6_fillFeet_168 rfl rfl rfl ?_
      refine Ev.goto (q := 125) dX6_fillFeet_171 (by decide) ?_
      rw [w32_of (by omega) (by omega)]
      exact ih (j + 1) _ (by omega) (hR.tab (by omega) _ _) (hTd.up (by decide)) (hHd.step hF12.2 (by omega) (fun k hk => up_k _ _ hk) (up_eq _ _ _ _)) (hF.up (sFf_t (by omega)))
set_option maxRecDepth 4000 in
theorem lc_feet4 {Γ : Gm} {d : Nat} {m0 : Mem} {Po : Int → Mem → Prop} (f : Row) (hH : RH f) (kont : ∀ (M : Mem), RC M f (f 2).toNat (f 3).toNat → FTd M f (f 3).toNat 0 → HTd M f (f 3).toNat 0 → Fr sFf m0 M → Po 0 M) : ∀ (n p : Nat) (M : Mem) (v2 : Vl), (p : Int) + n = f 3 → RC M f (f 2).toNat (f 3).toNat → FTd M f (f 3).toNat 0 → HTd M f p 0 → Fr sFf m0 M → Em Γ (d + 5) MX6_fillFeet Po 112 [rv 2, iv p, v2] [] M := by
  have hF12 := hH.1.1
  have hp8 := hH.1.2.2
  intro n
  induction n with
  | zero =>
    intro p M v2 hp hR hTd hHd hF
    refine Ev.iload_n (q := 113) dX6_fillFeet_112 rfl rfl ?_
    refine Ev.aload_n (q := 114) dX6_fillFeet_113 rfl rfl ?_
    refine gR (q := 117) dX6_fillFeet_114 gfX6_12 k2 r2_0 rfl rfl ?_
    refine gI (q := 120) dX6_fillFeet_117 gfX6_174 k3 rfl rfl ?_
    rw [hR.1.2.2.2]
    refine Ev.icmp_ge (tgt := 180) (q := 123) dX6_fillFeet_120 (by decide) rfl (fun h1 => ?_) (fun h1 => ?_)
    · skip
      refine rV dX6_fillFeet_180 rfl ?_
      exact kont M hR hTd (fun q i hi hq => hHd q i hi (by omega)) hF
    · skip
      omega
  | succ n ih =>
    intro p M v2 hp hR hTd hHd hF
    refine Ev.iload_n (q := 113) dX6_fillFeet_112 rfl rfl ?_
    refine Ev.aload_n (q := 114) dX6_fillFeet_113 rfl rfl ?_
    refine gR (q := 117) dX6_fillFeet_114 gfX6_12 k2 r2_0 rfl rfl ?_
    refine gI (q := 120) dX6_fillFeet_117 gfX6_174 k3 rfl rfl ?_
    rw [hR.1.2.2.2]
    refine Ev.icmp_ge (tgt := 180) (q := 123) dX6_fillFeet_120 (by decide) rfl (fun h1 => ?_) (fun h1 => ?_)
    · skip
      omega
    · skip
      refine Ev.iconst (q := 124) dX6_fillFeet_123 ki_0 rfl ?_
      refine istore_n_2 (q := 125) dX6_fillFeet_124 rfl rfl rfl ?_
      refine lc_feet3 (m0 := m0) f p hH (by omega) (fun M9 w2 hR9 hT9 hH9 hF9 => ?_) (f 1).toNat 0 M (by omega) hR hTd hHd hF
      refine iinc_1 (q := 177) dX6_fillFeet_174 rfl rfl rfl ?_
      refine Ev.goto (q := 112) dX6_fillFeet_177 (by decide) ?_
      rw [w32_of (by omega) (by omega)]
      exact ih (p + 1) M9 w2 (by omega) hR9 hT9 hH9 hF9
set_option maxRecDepth 4000 in
theorem p_X6_fillFeet {Γ : Gm} {d : Nat} {m : Mem} (f : Row) (hR : RC m f (f 2).toNat (f 3).toNat) (hH : RH f) (h9 : f 457 ≤ 900) : Ci Γ (d + 5) MX6_fillFeet [rv 2] m (fun r m' => RC m' f (f 2).toNat (f 3).toNat ∧ FTd m' f (f 3).toNat 0 ∧ HTd m' f (f 3).toNat 0 ∧ Fr sFf m m') := by
  refine Ci.of moX6_fillFeet rfl rfl (fun hA hM => ?_)
  show Em Γ (d + 5) MX6_fillFeet _ 0 [rv 2, uv, uv] [] m
  have hp8 := hH.1.2.2
  refine Ev.iconst (q := 1) dX6_fillFeet_0 ki_0 rfl ?_
  refine istore_n_1 (q := 2) dX6_fillFeet_1 rfl rfl rfl ?_
  refine lc_feet2 (m0 := m) f hH h9 (fun M9 w1 w2 hR9 hT9 hF9 => ?_) (f 3).toNat 0 m uv (by omega) hR (fun q i hi hq => by omega) (Fr.rf _ _)
  refine Ev.iconst (q := 111) dX6_fillFeet_110 ki_0 rfl ?_
  refine istore_n_1 (q := 112) dX6_fillFeet_111 rfl rfl rfl ?_
  exact lc_feet4 (m0 := m) f hH (fun M q1 q2 q3 q4 => ⟨q1, q2, q3, q4⟩) (f 3).toNat 0 M9 w2 (by omega) hR9 hT9 (fun q i hi hq => by omega) hF9
