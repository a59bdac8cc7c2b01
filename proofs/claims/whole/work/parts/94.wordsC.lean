/-! ===== the class: words and signs ===== -/
/-- the token at a place of the text -/
def tT (tx : Nat → Int) (N : Nat) (t : Tok) : Prop := ∃ p, p ≤ N ∧ t = tokV tx N p
theorem tT.ok {tx : Nat → Int} {N : Nat} {t : Tok} (h : tT tx N t) : tOK tx N t := by
  obtain ⟨p, hp, rfl⟩ := h
  have h1 := tok_le tx N p hp
  exact ⟨h1.2.1, h1.2.2.1, h1.2.2.2.1, h1.2.2.2.2.1, h1.2.2.2.2.2⟩
theorem tT.nx {tx : Nat → Int} {N : Nat} {t : Tok} (h : tT tx N t) : tT tx N (nxS tx N t) := ⟨t.2.2.1, h.ok.2.1, rfl⟩
theorem tT_0 (tx : Nat → Int) (N : Nat) : tT tx N (tokV tx N 0) := ⟨0, by omega, rfl⟩
theorem sgnV_n22 (c : Int) : ¬ sgnV c ≤ 22 := by have := sgnV_rng c; omega
/-- what kind of token -/
theorem tT_w {tx : Nat → Int} {N : Nat} {t : Tok} (h : tT tx N t) (hk : t.1 ≤ 22) : t.1 = keyV tx t.2.1 t.2.2.1 := by
  obtain ⟨p, hp, rfl⟩ := h
  have e := tokV_a (tx := tx) (n := N) (p := p) rfl
  rw [e] at hk ⊢
  generalize rE isSp tx N p = a at hk ⊢
  split at hk
  · exact absurd hk (by show ¬ (24 : Int) ≤ 22; decide)
  · rename_i h1
    rw [if_neg h1]
    split at hk
    · rename_i h2
      rw [if_pos h2]
    · rename_i h2
      split at hk
      · dsimp only at hk
        split at hk <;> omega
      · exact absurd hk (sgnV_n22 _)
theorem tT_s {tx : Nat → Int} {N : Nat} {t : Tok} (h : tT tx N t) (hk : 25 < t.1) : t.1 = sgnV (tx t.2.1) ∧ t.2.1 < N := by
  obtain ⟨p, hp, rfl⟩ := h
  have e := tokV_a (tx := tx) (n := N) (p := p) rfl
  rw [e] at hk ⊢
  generalize rE isSp tx N p = a at hk ⊢
  split at hk
  · exact absurd hk (by show ¬ 25 < (24 : Int); decide)
  · rename_i h1
    rw [if_neg h1]
    split at hk
    · have := keyV_rng tx a (rE isSm tx N a)
      dsimp only at hk
      omega
    · rename_i h2
      rw [if_neg h2]
      split at hk
      · dsimp only at hk
        split at hk <;> omega
      · rename_i h3
        rw [if_neg h3]
        exact ⟨rfl, by dsimp only; omega⟩
theorem wrd_un {tx : Nat → Int} {a b : Nat} {v w : List Nat} (h1 : wrdB tx a b v = true) (h2 : wrdB tx a b w = true) : v = w := by
  obtain ⟨l1, c1⟩ := wrdB_iff.mp h1
  obtain ⟨l2, c2⟩ := wrdB_iff.mp h2
  apply List.ext_getElem
  · omega
  · intro i q1 q2
    have e1 := c1 i q1
    have e2 := c2 i q2
    rw [e1] at e2
    simp only [List.getD_eq_getElem?_getD, List.getElem?_eq_getElem q1, List.getElem?_eq_getElem q2, Option.getD_some] at e2
    omega
theorem keyF_w {tx : Nat → Int} {a b k : Nat} : ∀ n j, j + n = 19 → (keyF tx a b n j = k ∧ j ≤ k ∧ k < 19 → wrdB tx a b (kwT.getD k []) = true) := by
  intro n
  induction n with
  | zero => intro j hj h; exact absurd h.1 (by show ¬ (22 : Int) = k; omega)
  | succ n ih =>
    intro j hj h
    unfold keyF at h
    split at h
    · rename_i hw
      have : j = k := by omega
      rw [← this]; exact hw
    · rename_i hw
      by_cases e : j = k
      · rcases keyF_rng tx a b n (j + 1) (by omega) with q | q <;> omega
      · exact ih (j + 1) (by omega) ⟨h.1, by omega, h.2.2⟩
theorem kw_nd : ∀ i, i < 19 → ∀ j, j < 19 → kwT.getD i [] = kwT.getD j [] → i = j := by decide +kernel
theorem keyF_i {tx : Nat → Int} {a b k : Nat} (hk : k < 19) (hw : wrdB tx a b (kwT.getD k []) = true) : ∀ n j, j + n = 19 → j ≤ k → keyF tx a b n j = k := by
  intro n
  induction n with
  | zero => intro j hj h; omega
  | succ n ih =>
    intro j hj h
    unfold keyF
    by_cases e : j = k
    · subst e; rw [if_pos hw]
    · rw [if_neg (fun z => e (kw_nd j (by omega) k hk (wrd_un z hw)))]
      exact ih (j + 1) (by omega) (by omega)
theorem key_iff {tx : Nat → Int} {a b k : Nat} (hk : k < 19) : keyV tx a b = k ↔ wrdB tx a b (kwT.getD k []) = true := ⟨fun h => keyF_w 19 0 rfl ⟨h, by omega, hk⟩, fun h => keyF_i hk h 19 0 rfl (by omega)⟩
/-- the class's word constants, as the reference's words -/
def kwOf (i : Nat) : Nat := if i ≤ 13 then i else if i = 14 then 17 else if i = 15 then 18 else if i = 16 then 14 else if i = 17 then 15 else 16
theorem kwOf_ok : ∀ i, i < 19 → chT.getD i [] = kwT.getD (kwOf i) [] ∧ kwOf i < 19 ∧ lenS.getD i 0 = (kwT.getD (kwOf i) []).length ∧ i < nSt := by decide +kernel
theorem kcl_w {k : Int} (h : 0 ≤ k ∧ k ≤ 36) : (kcl k = 1 ↔ k ≤ 22) ∧ (kcl k = 3 ↔ 25 < k) ∧ (kcl k = 2 ↔ k = 23) ∧ (kcl k = 0 ↔ k = 24) ∧ (kcl k = 4 ↔ k = 25) := by unfold kcl; refine ⟨?_, ?_, ?_, ?_, ?_⟩ <;> (repeat (first | omega | split))
theorem sgn_iff {c : Int} : (sgnV c = 30 ↔ c = 59) ∧ (sgnV c = 31 ↔ c = 58) ∧ (sgnV c = 32 ↔ c = 43) ∧ (sgnV c = 33 ↔ c = 45) ∧ (sgnV c = 34 ↔ c = 42) ∧ (sgnV c = 35 ↔ c = 40) ∧ (sgnV c = 36 ↔ c = 41) := by unfold sgnV; refine ⟨?_, ?_, ?_, ?_, ?_, ?_, ?_⟩ <;> (repeat (first | omega | split))
set_option maxRecDepth 4000 in
theorem p_X8_isSign {Γ : Gm} {d : Nat} {m : Mem} (tx : Nat → Int) (N : Nat) (t : Tok) (c s : Int) (hN : N ≤ 900) (hC : TC m tx N) (hT9 : tT tx N t) (hK9 : TkC m t) (hcs : (c = 59 ∧ s = 30) ∨ (c = 58 ∧ s = 31) ∨ (c = 43 ∧ s = 32) ∨ (c = 45 ∧ s = 33) ∨ (c = 42 ∧ s = 34) ∨ (c = 40 ∧ s = 35) ∨ (c = 41 ∧ s = 36)) : Ci Γ (d + 0) MX8_isSign [rv 22, iv c] m (fun r m' => r = (if t.1 = s then 1 else 0) ∧ m' = m) := by
  refine Ci.of moX8_isSign rfl rfl (fun hA hM => ?_)
  show Em Γ (d + 0) MX8_isSign _ 0 [rv 22, iv c] [] m
  obtain ⟨hT, hL, hB⟩ := hC
  obtain ⟨c3, c4, c2, c5⟩ := hK9
  have hO := hT9.ok
  have hkc := kcl_w hO.2.2.2.1
  refine Ev.aload_n (q := 1) dX8_isSign_0 rfl rfl ?_
  refine gI (q := 4) dX8_isSign_1 gfX8_20 k22 rfl rfl ?_
  rw [c3]
  refine Ev.iconst (q := 5) dX8_isSign_4 ki_3 rfl ?_
  refine Ev.icmp_ne (tgt := 25) (q := 8) dX8_isSign_5 (by decide) rfl (fun h1 => ?_) (fun h1 => ?_)
  · skip
    refine Ev.iconst (q := 26) dX8_isSign_25 ki_0 rfl ?_
    refine rZ dX8_isSign_26 rfl (by decide) ?_
    refine ⟨?_, rfl⟩
    split <;> first | rfl | omega
  · skip
    have hs9 : 25 < t.1 := by omega
    obtain ⟨q1, q2⟩ := tT_s hT9 hs9
    have hb := hB t.2.1 q2
    have hsg := sgn_iff (c := tx t.2.1)
    rw [← q1] at hsg
    refine Ev.aload_n (q := 9) dX8_isSign_8 rfl rfl ?_
    refine gDy (q := 12) (r := 1) dX8_isSign_9 gfX8_7 k22 hT rfl rfl ?_
    refine Ev.aload_n (q := 13) dX8_isSign_12 rfl rfl ?_
    refine gI (q := 16) dX8_isSign_13 gfX8_23 k22 rfl rfl ?_
    rw [c4]
    refine aB (q := 17) (k := t.2.1) dX8_isSign_16 k1 (by first | rfl | omega | (simp (disch := omega) only [w32_of]; omega)) (by omega) rfl ?_
    refine Ev.iload_n (q := 18) dX8_isSign_17 rfl rfl ?_
    refine Ev.icmp_ne (tgt := 25) (q := 21) dX8_isSign_18 (by decide) rfl (fun h2 => ?_) (fun h2 => ?_)
    · skip
      refine Ev.iconst (q := 26) dX8_isSign_25 ki_0 rfl ?_
      refine rZ dX8_isSign_26 rfl (by decide) ?_
      refine ⟨?_, rfl⟩
      split <;> first | rfl | omega
    · skip
      refine Ev.iconst (q := 22) dX8_isSign_21 ki_1 rfl ?_
      refine Ev.goto (q := 26) dX8_isSign_22 (by decide) ?_
      refine rZ dX8_isSign_26 rfl (by decide) ?_
      refine ⟨?_, rfl⟩
      split <;> first | rfl | omega
set_option maxRecDepth 4000 in
theorem lc_isWord {Γ : Gm} {d : Nat} {m : Mem} (tx : Nat → Int) (N : Nat) (t : Tok) (i : Nat) (W : List Nat) (hN : N ≤ 900) (hT : m 22 0 = ((1 : Nat) : Int)) (hB : BT m tx N) (c4 : m 22 4 = (t.2.1 : Int)) (hO : tOK tx N t) (hiS : i < nSt) (hlen : lenS.getD i 0 = W.length) (hlW : t.2.1 + W.length = t.2.2.1) (hW : W.length < 20) (hch : ∀ k, k < W.length → chS i k = (W.getD k 0 : Nat)) (hc8 : ∀ k, k < W.length → W.getD k 0 < 128) : ∀ (n k : Nat), k + n = W.length → (∀ j, j < k → tx (t.2.1 + j) = (W.getD j 0 : Nat)) → Em Γ (d + 4) MX8_isWord (fun r m' => r = (if wrdB tx t.2.1 t.2.2.1 W = true then 1 else 0) ∧ m' = m) 28 [rv 22, rv (100000 + i), iv k] [] m := by
  have hO2 := hO.2.1
  intro n
  induction n with
  | zero =>
    intro k hk hall
    refine Ev.iload_n (q := 29) dX8_isWord_28 rfl rfl ?_
    refine Ev.aload_n (q := 30) dX8_isWord_29 rfl rfl ?_
    refine cVS (q := 33) (d' := d + 3) (i := i) (As := []) hiS dX8_isWord_30 mlX8_38 moJ0_length_8abf5 mvJ0_length_8abf5 rfl rfl rfl rfl (Nat.le_refl _) rfl rfl rfl (p_J0_length_8abf5 i hiS) (fun r1 m1 e1 => ?_)
    obtain ⟨rfl, e1⟩ := e1
    obtain rfl := e1.symm
    rw [hlen]
    refine Ev.icmp_ge (tgt := 63) (q := 36) dX8_isWord_33 (by decide) rfl (fun h2 => ?_) (fun h2 => ?_)
    · skip
      refine Ev.iconst (q := 64) dX8_isWord_63 ki_1 rfl ?_
      refine rZ dX8_isWord_64 rfl (by decide) ?_
      have hw : wrdB tx t.2.1 t.2.2.1 W = true := wrdB_iff.mpr ⟨hlW, fun j hj => hall j (by omega)⟩
      exact ⟨by rw [if_pos hw], rfl⟩
    · skip
      omega
  | succ n ih =>
    intro k hk hall
    have h8 := hc8 k (by omega)
    refine Ev.iload_n (q := 29) dX8_isWord_28 rfl rfl ?_
    refine Ev.aload_n (q := 30) dX8_isWord_29 rfl rfl ?_
    refine cVS (q := 33) (d' := d + 3) (i := i) (As := []) hiS dX8_isWord_30 mlX8_38 moJ0_length_8abf5 mvJ0_length_8abf5 rfl rfl rfl rfl (Nat.le_refl _) rfl rfl rfl (p_J0_length_8abf5 i hiS) (fun r1 m1 e1 => ?_)
    obtain ⟨rfl, e1⟩ := e1
    obtain rfl := e1.symm
    rw [hlen]
    refine Ev.icmp_ge (tgt := 63) (q := 36) dX8_isWord_33 (by decide) rfl (fun h2 => ?_) (fun h2 => ?_)
    · skip
      omega
    · skip
      have hb := hB (t.2.1 + k) (by omega)
      refine Ev.aload_n (q := 37) dX8_isWord_36 rfl rfl ?_
      refine gDy (q := 40) (r := 1) dX8_isWord_37 gfX8_7 k22 hT rfl rfl ?_
      refine Ev.aload_n (q := 41) dX8_isWord_40 rfl rfl ?_
      refine gI (q := 44) dX8_isWord_41 gfX8_23 k22 rfl rfl ?_
      rw [c4]
      refine Ev.iload_n (q := 45) dX8_isWord_44 rfl rfl ?_
      skip
      refine Ev.iadd (q := 46) dX8_isWord_45 rfl ?_
      refine aB (q := 47) (k := t.2.1 + k) dX8_isWord_46 k1 (by first | rfl | omega | (simp (disch := omega) only [w32_of]; omega)) (by omega) rfl ?_
      refine Ev.aload_n (q := 48) dX8_isWord_47 rfl rfl ?_
      refine Ev.iload_n (q := 49) dX8_isWord_48 rfl rfl ?_
      refine cVS (q := 52) (d' := d + 3) (i := i) (As := [_]) hiS dX8_isWord_49 mlX8_43 moJ0_charAt_5068e mvJ0_charAt_5068e rfl rfl rfl rfl (Nat.le_refl _) rfl rfl rfl (p_J0_charAt_5068e i k hiS (by rw [hlen]; omega)) (fun r3 m3 e3 => ?_)
      obtain ⟨rfl, e3⟩ := e3
      obtain rfl := e3.symm
      rw [hch k (by omega)]
      refine Ev.icmp_eq (tgt := 57) (q := 55) dX8_isWord_52 (by decide) rfl (fun h4 => ?_) (fun h4 => ?_)
      · skip
        refine iinc_2 (q := 60) dX8_isWord_57 rfl rfl rfl ?_
        refine Ev.goto (q := 28) dX8_isWord_60 (by decide) ?_
        rw [w32_of (by omega) (by omega)]
        refine ih (k + 1) (by omega) (fun j hj => ?_)
        by_cases e : j = k
        · subst e; omega
        · exact hall j (by omega)
      · skip
        refine Ev.iconst (q := 56) dX8_isWord_55 ki_0 rfl ?_
        refine rZ dX8_isWord_56 rfl (by decide) ?_
        have hw : ¬ wrdB tx t.2.1 t.2.2.1 W = true := fun z => by
          have := (wrdB_iff.mp z).2 k (by omega)
          omega
        exact ⟨by rw [if_neg hw], rfl⟩
theorem kwL : ∀ i, i < 19 → (kwT.getD (kwOf i) []).length < 20 ∧ ∀ k, k < (kwT.getD (kwOf i) []).length → chS i k = ((kwT.getD (kwOf i) []).getD k 0 : Nat) ∧ (kwT.getD (kwOf i) []).getD k 0 < 128 := by decide +kernel
set_option maxRecDepth 4000 in
theorem p_X8_isWord {Γ : Gm} {d : Nat} {m : Mem} (tx : Nat → Int) (N : Nat) (t : Tok) (i : Nat) (hN : N ≤ 900) (hC : TC m tx N) (hT9 : tT tx N t) (hK9 : TkC m t) (hi : i < 19) : Ci Γ (d + 4) MX8_isWord [rv 22, rv (100000 + i)] m (fun r m' => r = (if t.1 = (kwOf i : Int) then 1 else 0) ∧ m' = m) := by
  refine Ci.of moX8_isWord rfl rfl (fun hA hM => ?_)
  show Em Γ (d + 4) MX8_isWord _ 0 [rv 22, rv (100000 + i), uv] [] m
  obtain ⟨hT, hL, hB⟩ := hC
  obtain ⟨c3, c4, c2, c5⟩ := hK9
  have hO := hT9.ok
  have hkc := kcl_w hO.2.2.2.1
  obtain ⟨w1, w2, w3, hiS⟩ := kwOf_ok i hi
  obtain ⟨w5, w6⟩ := kwL i hi
  obtain ⟨W, hW⟩ : ∃ W, W = kwT.getD (kwOf i) [] := ⟨_, rfl⟩
  rw [← hW] at w3 w5 w6
  have hlen : lenS.getD i 0 = W.length := w3
  have key : t.1 ≤ 22 → (t.1 = (kwOf i : Int) ↔ wrdB tx t.2.1 t.2.2.1 W = true) := fun z => by rw [tT_w hT9 z, hW]; exact key_iff w2
  refine Ev.aload_n (q := 1) dX8_isWord_0 rfl rfl ?_
  refine gI (q := 4) dX8_isWord_1 gfX8_20 k22 rfl rfl ?_
  rw [c3]
  refine Ev.iconst (q := 5) dX8_isWord_4 ki_1 rfl ?_
  refine Ev.icmp_ne (tgt := 24) (q := 8) dX8_isWord_5 (by decide) rfl (fun h1 => ?_) (fun h1 => ?_)
  · skip
    refine Ev.iconst (q := 25) dX8_isWord_24 ki_0 rfl ?_
    refine rZ dX8_isWord_25 rfl (by decide) ?_
    exact ⟨by rw [if_neg (by omega)], rfl⟩
  · skip
    refine Ev.aload_n (q := 9) dX8_isWord_8 rfl rfl ?_
    refine gI (q := 12) dX8_isWord_9 gfX8_17 k22 rfl rfl ?_
    rw [c2]
    refine Ev.aload_n (q := 13) dX8_isWord_12 rfl rfl ?_
    refine gI (q := 16) dX8_isWord_13 gfX8_23 k22 rfl rfl ?_
    refine Ev.isub (q := 17) dX8_isWord_16 rfl ?_
    rw [c4, w32_of (by have := hO.1; have := hO.2.1; omega) (by have := hO.1; have := hO.2.1; omega)]
    refine Ev.aload_n (q := 18) dX8_isWord_17 rfl rfl ?_
    refine cVS (q := 21) (d' := d + 3) (i := i) (As := []) hiS dX8_isWord_18 mlX8_38 moJ0_length_8abf5 mvJ0_length_8abf5 rfl rfl rfl rfl (Nat.le_refl _) rfl rfl rfl (p_J0_length_8abf5 i hiS) (fun r2 m2 e2 => ?_)
    obtain ⟨rfl, e2⟩ := e2
    obtain rfl := e2.symm
    rw [hlen]
    refine Ev.icmp_eq (tgt := 26) (q := 24) dX8_isWord_21 (by decide) rfl (fun h3 => ?_) (fun h3 => ?_)
    · skip
      refine Ev.iconst (q := 27) dX8_isWord_26 ki_0 rfl ?_
      refine istore_n_2 (q := 28) dX8_isWord_27 rfl rfl rfl ?_
      have h22 : t.1 ≤ 22 := by omega
      have hlW : t.2.1 + W.length = t.2.2.1 := by have := hO.1; omega
      refine (lc_isWord (d := d) tx N t i W hN hT hB c4 hO hiS hlen hlW w5 (fun k hk => (w6 k hk).1) (fun k hk => (w6 k hk).2) W.length 0 (by omega) (fun j hj => by omega)).imp ?_
      intro r9 m9 h9
      refine ⟨?_, h9.2⟩
      rw [h9.1]
      by_cases e : wrdB tx t.2.1 t.2.2.1 W = true
      · rw [if_pos e, if_pos ((key h22).mpr e)]
      · rw [if_neg e, if_neg (fun z => e ((key h22).mp z))]
    · skip
      refine Ev.iconst (q := 25) dX8_isWord_24 ki_0 rfl ?_
      refine rZ dX8_isWord_25 rfl (by decide) ?_
      have h22 : t.1 ≤ 22 := by omega
      have hw : ¬ wrdB tx t.2.1 t.2.2.1 W = true := fun z => by have := (wrdB_iff.mp z).1; have := hO.1; omega
      exact ⟨by rw [if_neg (fun z => hw ((key h22).mp z))], rfl⟩
set_option maxRecDepth 4000 in
theorem p_X8_begin {Γ : Gm} {d : Nat} {m : Mem} (tx : Nat → Int) (n : Nat) (hn : n ≤ 900) (hB : BT m tx n) : Ci Γ (d + 1) MX8_begin [rv 22, rv 1, iv n] m (fun r m' => TC m' tx n ∧ TkC m' (tokV tx n 0) ∧ Fr (sA 22) m m') := by
  refine Ci.of moX8_begin rfl rfl (fun hA hM => ?_)
  show Em Γ (d + 1) MX8_begin _ 0 [rv 22, rv 1, iv n] [] m
  refine Ev.aload_n (q := 1) dX8_begin_0 rfl rfl ?_
  refine Ev.aload_n (q := 2) dX8_begin_1 rfl rfl ?_
  refine pDy (q := 5) dX8_begin_2 gfX8_7 k22 (by decide) rfl rfl ?_
  refine Ev.aload_n (q := 6) dX8_begin_5 rfl rfl ?_
  refine Ev.iload_n (q := 7) dX8_begin_6 rfl rfl ?_
  refine Ev.aload_n (q := 8) dX8_begin_7 rfl rfl ?_
  refine aLen (q := 9) dX8_begin_8 k1 (by decide) (by decide) rfl ?_
  refine cS2i (q := 12) (d' := d + 0) dX8_begin_9 mlX8_29 moJ9_min_7cf53 msJ9_min_7cf53 rfl rfl (Nat.le_refl _) rfl rfl rfl (p_J9_min_7cf53 _ _) (fun r1 m1 e1 => ?_)
  obtain ⟨rfl, e1⟩ := e1
  obtain rfl := e1.symm
  rw [if_neg (by omega)]
  refine pI (q := 15) dX8_begin_12 gfX8_13 k22 rfl rfl ?_
  refine Ev.aload_n (q := 16) dX8_begin_15 rfl rfl ?_
  refine Ev.iconst (q := 17) dX8_begin_16 ki_0 rfl ?_
  refine pI (q := 20) dX8_begin_17 gfX8_17 k22 rfl rfl ?_
  refine Ev.aload_n (q := 21) dX8_begin_20 rfl rfl ?_
  refine cV0v (q := 24) (d' := d + 0) dX8_begin_21 mlX8_35 moX8_next mvX8_next k22 rfl rfl rfl (Nat.le_refl _) rfl rfl rfl (p_X8_next tx n 0 hn ⟨by rw [up_k _ _ (by decide), up_k _ _ (by decide), up_eq], by rw [up_k _ _ (by decide), up_eq], fun i hi => by rw [up_o _ _ (by decide), up_o _ _ (by decide), up_o _ _ (by decide)]; exact hB i hi⟩ (by omega) (by rw [up_eq]; rfl)) (fun r2 m2 e2 => ?_)
  obtain ⟨y1, y2⟩ := e2
  refine rV dX8_begin_24 rfl ?_
  refine ⟨TC.keep ⟨by rw [up_k _ _ (by decide), up_k _ _ (by decide), up_eq], by rw [up_k _ _ (by decide), up_eq], fun i hi => by rw [up_o _ _ (by decide), up_o _ _ (by decide), up_o _ _ (by decide)]; exact hB i hi⟩ y2, y1, ((((Fr.rf (sA 22) m).up rfl).up rfl).up rfl).tr (y2.mono (fun a k q => ?_))⟩
  unfold sTn
  rw [show (a == 22) = false from q]
  rfl
