/-! ===== the reference: deeds done ===== -/
theorem LawOk_congr {g g' : Nat → Int} {law : Nat} (hlaw : law < 2) (h1 : ∀ j, j < 60 → g' j = g j) (h2 : ∀ j, 458 ≤ j → g' j = g j) (h : LawOk g law) : LawOk g' law := by
  unfold LawOk at h ⊢
  rw [h1 (4 + law) (by omega), h1 (6 + law) (by omega), h1 (8 + law) (by omega)]
  rcases h with h | ⟨h, fr, n, e1, e2, e3, e4⟩
  · exact Or.inl h
  · refine Or.inr ⟨h, fr, n, e1, e2, e3, ?_⟩
    have : (fun k => g' (458 + fr + k)) = (fun k => g (458 + fr + k)) := funext fun k => h2 _ (by omega)
    rw [this]
    exact e4
theorem HI_congr {g g' : Nat → Int} (h1 : ∀ j, j < 96 → g' j = g j) (h2 : ∀ j, 458 ≤ j → g' j = g j) (h : HI g) : HI g' := by
  obtain ⟨a1, a2, a3, a4, a5, a6, a7, a8⟩ := h
  have e1 := h1 1 (by omega)
  have e2 := h1 2 (by omega)
  have e3 := h1 3 (by omega)
  refine ⟨by rw [e1]; exact a1, by rw [e2]; exact a2, by rw [e3]; exact a3, LawOk_congr (by decide) (fun j hj => h1 j (by omega)) h2 a4, LawOk_congr (by decide) (fun j hj => h1 j (by omega)) h2 a5, fun l hl => ?_, fun p hp => ?_, fun f hf => ?_⟩
  · rw [e2] at hl
    rw [e1, h1 (60 + l) (by omega), h1 (66 + l) (by omega), h1 (69 + l) (by omega), h1 (22 + l) (by omega), h1 (25 + l) (by omega)]
    exact a6 l hl
  · rw [e3] at hp
    have := a7 p hp
    rw [e1, e2, h1 (28 + p) (by omega), h1 (36 + p) (by omega), h1 (44 + p) (by omega), h1 (52 + p) (by omega), h1 (72 + p) (by omega), h1 (88 + p) (by omega)]
    refine ⟨this.1, this.2.1, this.2.2.1, this.2.2.2.1, this.2.2.2.2.1, ?_⟩
    rcases this.2.2.2.2.2 with q | ⟨q1, q2, q3⟩
    · exact Or.inl q
    · rw [h1 (60 + (g (88 + p)).toNat) (by omega)]
      exact Or.inr ⟨q1, q2, q3⟩
  · rw [h1 (10 + f) (by omega)]
    exact a8 f hf
def notG (g w : Nat → Int) : Nat → Int := fun j =>
  if j = 96 then (if g 96 = 10 then 10 else g 96 + 1) else
  if 97 + 36 * (if g 96 = 10 then 9 else (g 96).toNat) ≤ j ∧ j < 97 + 36 * (if g 96 = 10 then 9 else (g 96).toNat) + 36 then w (j - (97 + 36 * (if g 96 = 10 then 9 else (g 96).toNat))) else
  if g 96 = 10 ∧ 97 ≤ j ∧ j < 421 then g (j + 36) else g j
def getG (g : Nat → Int) (p l : Nat) : Nat → Int := if g (63 + l) < g (80 + p) then upg (upg g (88 + p) l) (63 + l) (g (80 + p)) else upg g (88 + p) l
def walG (g : Nat → Int) (p f : Nat) : Nat → Int := upg (upg g (80 + p) (w32 (g (80 + p) + footV g p (g (72 + p)).toNat f))) (72 + p) f
def ridN (g : Nat → Int) (l : Nat) (t : Tr) (n : Nat) : Nat → Int := fun j =>
  if j = 60 + l then (t.1 : Int) else if j = 63 + l then t.2.1 else if j = 66 + l then (t.2.2.1 : Int) else if j = 69 + l then (if t.2.2.2.1 = true then 1 else 0) else
  if 72 ≤ j ∧ j < 72 + n ∧ g (16 + j) = l then (t.1 : Int) else if 80 ≤ j ∧ j < 80 + n ∧ g (8 + j) = l then t.2.2.2.2 else g j
def ridG (g : Nat → Int) (l : Nat) : Nat → Int := match tgo (g (22 + l)) (stopV g l) (liftT g l) with
  | none => g
  | some t => ridN g l t (g 3).toNat
def sRd (a k : Nat) : Bool := sT a k || a == 212
theorem sRd_T {a k : Nat} (h : sRd a k = false) : sT a k = false := by unfold sRd at h; simp at h; exact h.1
set_option maxRecDepth 4000 in
theorem l_notesA {Γ : Gm} {d : Nat} {m0 : Mem} {Po : Int → Mem → Prop} (kont : ∀ (m : Mem), (∀ j, m 212 j = if 97 ≤ j ∧ j < 97 + 324 then m0 212 (j + 36) else m0 212 j) → Fr s212 m0 m → Em Γ (d + 0) MX12_notes Po 46 [rv 211, iv ((324 : Nat) : Int)] [] m) : ∀ (n k : Nat), k + n = 324 → ∀ (m : Mem), (∀ j, m 212 j = if 97 ≤ j ∧ j < 97 + k then m0 212 (j + 36) else m0 212 j) → Fr s212 m0 m → Em Γ (d + 0) MX12_notes Po 14 [rv 211, iv k] [] m := by
  intro n
  induction n with
  | zero =>
    intro k hk m hv hF0
    obtain rfl : k = 324 := by omega
    refine Ev.iload_n (q := 15) dX12_notes_14 rfl rfl ?_
    refine Ev.sipush (q := 18) dX12_notes_15 kh_324 rfl ?_
    refine Ev.icmp_ge (tgt := 46) (q := 21) dX12_notes_18 (by decide) rfl (fun h1 => ?_) (fun h1 => ?_)
    · skip
      exact kont m hv hF0
    · skip
      omega
  | succ n ih =>
    intro k hk m hv hF0
    refine Ev.iload_n (q := 15) dX12_notes_14 rfl rfl ?_
    refine Ev.sipush (q := 18) dX12_notes_15 kh_324 rfl ?_
    refine Ev.icmp_ge (tgt := 46) (q := 21) dX12_notes_18 (by decide) rfl (fun h1 => ?_) (fun h1 => ?_)
    · skip
      omega
    · skip
      refine Ev.aload_n (q := 22) dX12_notes_21 rfl rfl ?_
      refine gR (q := 25) dX12_notes_22 gfX12_13 k211 r211_1 rfl rfl ?_
      refine Ev.bipush (q := 27) dX12_notes_25 kb_97 rfl ?_
      refine Ev.iload_n (q := 28) dX12_notes_27 rfl rfl ?_
      refine Ev.iadd (q := 29) dX12_notes_28 rfl ?_
      refine Ev.aload_n (q := 30) dX12_notes_29 rfl rfl ?_
      refine gR (q := 33) dX12_notes_30 gfX12_13 k211 r211_1 rfl rfl ?_
      refine Ev.sipush (q := 36) dX12_notes_33 kh_133 rfl ?_
      refine Ev.iload_n (q := 37) dX12_notes_36 rfl rfl ?_
      refine Ev.iadd (q := 38) dX12_notes_37 rfl ?_
      refine aI (q := 39) (k := 133 + k) dX12_notes_38 k212 (by first | rfl | omega | (simp (disch := omega) only [w32_of]; omega)) (by omega) rfl ?_
      refine sI (q := 40) (k := 97 + k) dX12_notes_39 k212 (by first | rfl | omega | (simp (disch := omega) only [w32_of]; omega)) (by omega) rfl ?_
      refine iinc_1 (q := 43) dX12_notes_40 rfl rfl rfl ?_
      refine Ev.goto (q := 14) dX12_notes_43 (by decide) ?_
      rw [w32_of (z := (k : Int) + 1) (by omega) (by omega)]
      refine ih (k + 1) (by omega) _ (fun j => ?_) (hF0.up rfl)
      by_cases hjk : j = 97 + k
      · rw [hjk, up_eq, if_pos (by omega), hv, if_neg (by omega)]; congr 1; omega
      · rw [up_k _ _ hjk, hv j]
        by_cases hq : 97 ≤ j ∧ j < 97 + k
        · rw [if_pos hq, if_pos (by omega)]
        · rw [if_neg hq, if_neg (by omega)]
set_option maxRecDepth 4000 in
theorem l_notesB {Γ : Gm} {d : Nat} {m0 : Mem} {Po : Int → Mem → Prop} (g1 : Nat → Int) (N : Nat) (hN : g1 96 = N) (hN9 : N < 10) (kont : ∀ (m : Mem), (∀ j, m 212 j = if 97 + 36 * N ≤ j ∧ j < 97 + 36 * N + 36 then m0 218 (j - (97 + 36 * N)) else g1 j) → Fr s212 m0 m → Em Γ (d + 0) MX12_notes Po 97 [rv 211, iv ((36 : Nat) : Int)] [] m) : ∀ (n k : Nat), k + n = 36 → ∀ (m : Mem), (∀ j, m 212 j = if 97 + 36 * N ≤ j ∧ j < 97 + 36 * N + k then m0 218 (j - (97 + 36 * N)) else g1 j) → Fr s212 m0 m → Em Γ (d + 0) MX12_notes Po 59 [rv 211, iv k] [] m := by
  intro n
  induction n with
  | zero =>
    intro k hk m hv hF0
    obtain rfl : k = 36 := by omega
    refine Ev.iload_n (q := 60) dX12_notes_59 rfl rfl ?_
    refine Ev.bipush (q := 62) dX12_notes_60 kb_36 rfl ?_
    refine Ev.icmp_ge (tgt := 97) (q := 65) dX12_notes_62 (by decide) rfl (fun h1 => ?_) (fun h1 => ?_)
    · skip
      exact kont m hv hF0
    · skip
      omega
  | succ n ih =>
    intro k hk m hv hF0
    refine Ev.iload_n (q := 60) dX12_notes_59 rfl rfl ?_
    refine Ev.bipush (q := 62) dX12_notes_60 kb_36 rfl ?_
    refine Ev.icmp_ge (tgt := 97) (q := 65) dX12_notes_62 (by decide) rfl (fun h1 => ?_) (fun h1 => ?_)
    · skip
      omega
    · skip
      refine Ev.aload_n (q := 66) dX12_notes_65 rfl rfl ?_
      refine gR (q := 69) dX12_notes_66 gfX12_13 k211 r211_1 rfl rfl ?_
      refine Ev.bipush (q := 71) dX12_notes_69 kb_97 rfl ?_
      refine Ev.bipush (q := 73) dX12_notes_71 kb_36 rfl ?_
      refine Ev.aload_n (q := 74) dX12_notes_73 rfl rfl ?_
      refine gR (q := 77) dX12_notes_74 gfX12_13 k211 r211_1 rfl rfl ?_
      refine Ev.bipush (q := 79) dX12_notes_77 kb_96 rfl ?_
      refine aI (q := 80) (k := 96) dX12_notes_79 k212 (by rfl) (by decide) rfl ?_
      rw [show m 212 96 = (N : Int) by rw [hv, if_neg (by omega)]; exact hN]
      refine Ev.imul (q := 81) dX12_notes_80 rfl ?_
      refine Ev.iadd (q := 82) dX12_notes_81 rfl ?_
      refine Ev.iload_n (q := 83) dX12_notes_82 rfl rfl ?_
      refine Ev.iadd (q := 84) dX12_notes_83 rfl ?_
      refine Ev.aload_n (q := 85) dX12_notes_84 rfl rfl ?_
      refine gR (q := 88) dX12_notes_85 gfX12_36 k211 r211_24 rfl rfl ?_
      refine Ev.iload_n (q := 89) dX12_notes_88 rfl rfl ?_
      refine aI (q := 90) (k := k) dX12_notes_89 k218 (by first | rfl | omega | (simp (disch := omega) only [w32_of]; omega)) (by omega) rfl ?_
      refine sI (q := 91) (k := 97 + 36 * N + k) dX12_notes_90 k212 (by first | rfl | omega | (simp (disch := omega) only [w32_of]; omega)) (by omega) rfl ?_
      refine iinc_1 (q := 94) dX12_notes_91 rfl rfl rfl ?_
      refine Ev.goto (q := 59) dX12_notes_94 (by decide) ?_
      rw [w32_of (z := (k : Int) + 1) (by omega) (by omega)]
      refine ih (k + 1) (by omega) _ (fun j => ?_) (hF0.up rfl)
      by_cases hjk : j = 97 + 36 * N + k
      · rw [hjk, up_eq, if_pos (by omega), hF0 218 _ rfl]; congr 1; omega
      · rw [up_k _ _ hjk, hv j]
        by_cases hq : 97 + 36 * N ≤ j ∧ j < 97 + 36 * N + k
        · rw [if_pos hq, if_pos (by omega)]
        · rw [if_neg hq, if_neg (by omega)]
set_option maxRecDepth 4000 in
theorem p_X12_notes {Γ : Gm} {d : Nat} {m : Mem}  (h96 : 0 ≤ m 212 96 ∧ m 212 96 ≤ 10) : Ci Γ (d + 0) MX12_notes [rv 211] m (fun r m' => m' 212 = notG (m 212) (m 218) ∧ Fr s212 m m') := by
  refine Ci.of moX12_notes rfl rfl (fun hA hM => ?_)
  show Em Γ (d + 0) MX12_notes _ 0 [rv 211, uv] [] m
  refine Ev.aload_n (q := 1) dX12_notes_0 rfl rfl ?_
  refine gR (q := 4) dX12_notes_1 gfX12_13 k211 r211_1 rfl rfl ?_
  refine Ev.bipush (q := 6) dX12_notes_4 kb_96 rfl ?_
  refine aI (q := 7) (k := 96) dX12_notes_6 k212 (by rfl) (by decide) rfl ?_
  refine Ev.bipush (q := 9) dX12_notes_7 kb_10 rfl ?_
  refine Ev.icmp_ne (tgt := 57) (q := 12) dX12_notes_9 (by decide) rfl (fun h1 => ?_) (fun h1 => ?_)
  · skip
    refine Ev.iconst (q := 58) dX12_notes_57 ki_0 rfl ?_
    refine istore_n_1 (q := 59) dX12_notes_58 rfl rfl rfl ?_
    obtain ⟨N, hN⟩ : ∃ N : Nat, m 212 96 = N := ⟨(m 212 96).toNat, by omega⟩
    refine l_notesB (m0 := m) (m 212) N hN (by omega) (fun M9 hv9 hF9 => ?_) 36 0 (by omega) m (fun j => by rw [if_neg (by omega)]) (Fr.rf _ _)
    refine Ev.aload_n (q := 98) dX12_notes_97 rfl rfl ?_
    refine gR (q := 101) dX12_notes_98 gfX12_13 k211 r211_1 rfl rfl ?_
    refine Ev.bipush (q := 103) dX12_notes_101 kb_96 rfl ?_
    refine Ev.dup2 (q := 104) dX12_notes_103 (fun z => by cases z) (fun z => by cases z) rfl ?_
    refine aI (q := 105) (k := 96) dX12_notes_104 k212 (by rfl) (by decide) rfl ?_
    refine Ev.iconst (q := 106) dX12_notes_105 ki_1 rfl ?_
    refine Ev.iadd (q := 107) dX12_notes_106 rfl ?_
    refine sI (q := 108) (k := 96) dX12_notes_107 k212 (by rfl) (by decide) rfl ?_
    refine rV dX12_notes_108 rfl ?_
    refine ⟨?_, hF9.up rfl⟩
    rw [up_row]
    funext j
    unfold upg notG
    simp only [if_neg h1]
    have hNt : (m 212 96).toNat = N := by omega
    by_cases h2 : j = 96
    · rw [if_pos h2, if_pos h2, hv9, if_neg (by omega), w32_of (by omega) (by omega)]
    · rw [if_neg h2, if_neg h2, hv9, hNt]
      by_cases h3 : 97 + 36 * N ≤ j ∧ j < 97 + 36 * N + 36
      · rw [if_pos h3, if_pos h3]
      · rw [if_neg h3, if_neg h3, if_neg (fun q => h1 q.1)]
  · skip
    refine Ev.iconst (q := 13) dX12_notes_12 ki_0 rfl ?_
    refine istore_n_1 (q := 14) dX12_notes_13 rfl rfl rfl ?_
    have hten : m 212 96 = 10 := by omega
    refine l_notesA (m0 := m) (fun M1 hv1 hF1 => ?_) 324 0 (by omega) m (fun j => by rw [if_neg (by omega)]) (Fr.rf _ _)
    refine Ev.aload_n (q := 47) dX12_notes_46 rfl rfl ?_
    refine gR (q := 50) dX12_notes_47 gfX12_13 k211 r211_1 rfl rfl ?_
    refine Ev.bipush (q := 52) dX12_notes_50 kb_96 rfl ?_
    refine Ev.dup2 (q := 53) dX12_notes_52 (fun z => by cases z) (fun z => by cases z) rfl ?_
    refine aI (q := 54) (k := 96) dX12_notes_53 k212 (by rfl) (by decide) rfl ?_
    refine Ev.iconst (q := 55) dX12_notes_54 ki_1 rfl ?_
    refine Ev.isub (q := 56) dX12_notes_55 rfl ?_
    refine sI (q := 57) (k := 96) dX12_notes_56 k212 (by rfl) (by decide) rfl ?_
    refine Ev.iconst (q := 58) dX12_notes_57 ki_0 rfl ?_
    refine istore_n_1 (q := 59) dX12_notes_58 rfl rfl rfl ?_
    rw [show w32 (M1 212 96 - 1) = 9 by rw [hv1, if_neg (by omega), hten]; decide +kernel]
    refine l_notesB (m0 := M1) (upg (M1 212) 96 9) 9 (upg_eq _ _ _) (by decide) (fun M9 hv9 hF9 => ?_) 36 0 (by omega) _ (fun j => by rw [if_neg (by omega), up_row]) ((Fr.rf _ _).up rfl)
    have hF9 := hF1.tr hF9
    refine Ev.aload_n (q := 98) dX12_notes_97 rfl rfl ?_
    refine gR (q := 101) dX12_notes_98 gfX12_13 k211 r211_1 rfl rfl ?_
    refine Ev.bipush (q := 103) dX12_notes_101 kb_96 rfl ?_
    refine Ev.dup2 (q := 104) dX12_notes_103 (fun z => by cases z) (fun z => by cases z) rfl ?_
    refine aI (q := 105) (k := 96) dX12_notes_104 k212 (by rfl) (by decide) rfl ?_
    refine Ev.iconst (q := 106) dX12_notes_105 ki_1 rfl ?_
    refine Ev.iadd (q := 107) dX12_notes_106 rfl ?_
    refine sI (q := 108) (k := 96) dX12_notes_107 k212 (by rfl) (by decide) rfl ?_
    refine rV dX12_notes_108 rfl ?_
    refine ⟨?_, hF9.up rfl⟩
    rw [up_row]
    funext j
    unfold upg notG
    rw [hten]
    simp only [if_true, true_and]
    by_cases h1 : j = 96
    · rw [if_pos h1, if_pos h1, hv9, if_neg (by omega), upg_eq]; decide +kernel
    · rw [if_neg h1, if_neg h1, hv9]
      by_cases h2 : 97 + 36 * 9 ≤ j ∧ j < 97 + 36 * 9 + 36
      · rw [if_pos h2, if_pos h2, hF1 218 _ rfl]
      · rw [if_neg h2, if_neg h2, upg_ne _ _ h1, hv1 j]
set_option maxRecDepth 4000 in
theorem p_X12_getsIn {Γ : Gm} {d : Nat} {m : Mem} (p l : Nat) (hp : p < 8) (hl : l < 3) : Ci Γ (d + 0) MX12_getsIn [rv 211, iv p, iv l] m (fun r m' => m' 212 = getG (m 212) p l ∧ Fr s212 m m') := by
  refine Ci.of moX12_getsIn rfl rfl (fun hA hM => ?_)
  show Em Γ (d + 0) MX12_getsIn _ 0 [rv 211, iv p, iv l] [] m
  refine Ev.aload_n (q := 1) dX12_getsIn_0 rfl rfl ?_
  refine gR (q := 4) dX12_getsIn_1 gfX12_13 k211 r211_1 rfl rfl ?_
  refine Ev.bipush (q := 6) dX12_getsIn_4 kb_88 rfl ?_
  refine Ev.iload_n (q := 7) dX12_getsIn_6 rfl rfl ?_
  refine Ev.iadd (q := 8) dX12_getsIn_7 rfl ?_
  refine Ev.iload_n (q := 9) dX12_getsIn_8 rfl rfl ?_
  refine sI (q := 10) (k := 88 + p) dX12_getsIn_9 k212 (by first | rfl | omega | (simp (disch := omega) only [w32_of]; omega)) (by omega) rfl ?_
  refine Ev.aload_n (q := 11) dX12_getsIn_10 rfl rfl ?_
  refine gR (q := 14) dX12_getsIn_11 gfX12_13 k211 r211_1 rfl rfl ?_
  refine Ev.bipush (q := 16) dX12_getsIn_14 kb_63 rfl ?_
  refine Ev.iload_n (q := 17) dX12_getsIn_16 rfl rfl ?_
  refine Ev.iadd (q := 18) dX12_getsIn_17 rfl ?_
  refine aI (q := 19) (k := 63 + l) dX12_getsIn_18 k212 (by first | rfl | omega | (simp (disch := omega) only [w32_of]; omega)) (by omega) rfl ?_
  refine Ev.aload_n (q := 20) dX12_getsIn_19 rfl rfl ?_
  refine gR (q := 23) dX12_getsIn_20 gfX12_13 k211 r211_1 rfl rfl ?_
  refine Ev.bipush (q := 25) dX12_getsIn_23 kb_80 rfl ?_
  refine Ev.iload_n (q := 26) dX12_getsIn_25 rfl rfl ?_
  refine Ev.iadd (q := 27) dX12_getsIn_26 rfl ?_
  refine aI (q := 28) (k := 80 + p) dX12_getsIn_27 k212 (by first | rfl | omega | (simp (disch := omega) only [w32_of]; omega)) (by omega) rfl ?_
  rw [up_k _ _ (by omega), up_k _ _ (by omega)]
  refine Ev.icmp_ge (tgt := 49) (q := 31) dX12_getsIn_28 (by decide) rfl (fun h1 => ?_) (fun h1 => ?_)
  · skip
    refine rV dX12_getsIn_49 rfl ?_
    refine ⟨?_, (Fr.rf _ _).up rfl⟩
    rw [up_row]; unfold getG; rw [if_neg (by omega)]
  · skip
    refine Ev.aload_n (q := 32) dX12_getsIn_31 rfl rfl ?_
    refine gR (q := 35) dX12_getsIn_32 gfX12_13 k211 r211_1 rfl rfl ?_
    refine Ev.bipush (q := 37) dX12_getsIn_35 kb_63 rfl ?_
    refine Ev.iload_n (q := 38) dX12_getsIn_37 rfl rfl ?_
    refine Ev.iadd (q := 39) dX12_getsIn_38 rfl ?_
    refine Ev.aload_n (q := 40) dX12_getsIn_39 rfl rfl ?_
    refine gR (q := 43) dX12_getsIn_40 gfX12_13 k211 r211_1 rfl rfl ?_
    refine Ev.bipush (q := 45) dX12_getsIn_43 kb_80 rfl ?_
    refine Ev.iload_n (q := 46) dX12_getsIn_45 rfl rfl ?_
    refine Ev.iadd (q := 47) dX12_getsIn_46 rfl ?_
    refine aI (q := 48) (k := 80 + p) dX12_getsIn_47 k212 (by first | rfl | omega | (simp (disch := omega) only [w32_of]; omega)) (by omega) rfl ?_
    refine sI (q := 49) (k := 63 + l) dX12_getsIn_48 k212 (by first | rfl | omega | (simp (disch := omega) only [w32_of]; omega)) (by omega) rfl ?_
    refine rV dX12_getsIn_49 rfl ?_
    refine ⟨?_, ((Fr.rf _ _).up rfl).up rfl⟩
    rw [up_row, up_row]; unfold getG; rw [if_pos (by omega), upg_ne _ _ (by omega)]
set_option maxRecDepth 4000 in
theorem p_X12_walksOne {Γ : Gm} {d : Nat} {m : Mem} (p f : Nat) (hI : HI (m 212)) (hp : (p : Int) < m 212 3) (hf : f < 12) : Ci Γ (d + 3) MX12_walksOne [rv 211, iv p, iv f] m (fun r m' => m' 212 = walG (m 212) p f ∧ Fr sRd m m') := by
  refine Ci.of moX12_walksOne rfl rfl (fun hA hM => ?_)
  show Em Γ (d + 3) MX12_walksOne _ 0 [rv 211, iv p, iv f] [] m
  have hP8 := hI.2.2.1
  have hpers := hI.pers hp
  have hF12 := hI.1
  obtain ⟨fr, hfr⟩ : ∃ fr : Nat, m 212 (72 + p) = fr := ⟨(m 212 (72 + p)).toNat, by omega⟩
  refine Ev.aload_n (q := 1) dX12_walksOne_0 rfl rfl ?_
  refine gR (q := 4) dX12_walksOne_1 gfX12_13 k211 r211_1 rfl rfl ?_
  refine Ev.bipush (q := 6) dX12_walksOne_4 kb_80 rfl ?_
  refine Ev.iload_n (q := 7) dX12_walksOne_6 rfl rfl ?_
  refine Ev.iadd (q := 8) dX12_walksOne_7 rfl ?_
  refine Ev.dup2 (q := 9) dX12_walksOne_8 (fun z => by cases z) (fun z => by cases z) rfl ?_
  refine aI (q := 10) (k := 80 + p) dX12_walksOne_9 k212 (by first | rfl | omega | (simp (disch := omega) only [w32_of]; omega)) (by omega) rfl ?_
  refine Ev.aload_n (q := 11) dX12_walksOne_10 rfl rfl ?_
  refine Ev.iload_n (q := 12) dX12_walksOne_11 rfl rfl ?_
  refine Ev.aload_n (q := 13) dX12_walksOne_12 rfl rfl ?_
  refine gR (q := 16) dX12_walksOne_13 gfX12_13 k211 r211_1 rfl rfl ?_
  refine Ev.bipush (q := 18) dX12_walksOne_16 kb_72 rfl ?_
  refine Ev.iload_n (q := 19) dX12_walksOne_18 rfl rfl ?_
  refine Ev.iadd (q := 20) dX12_walksOne_19 rfl ?_
  refine aI (q := 21) (k := 72 + p) dX12_walksOne_20 k212 (by first | rfl | omega | (simp (disch := omega) only [w32_of]; omega)) (by omega) rfl ?_
  rw [hfr]
  refine Ev.iload_n (q := 22) dX12_walksOne_21 rfl rfl ?_
  refine cV3i (q := 25) (d' := d + 2) dX12_walksOne_22 mlX12_246 moX12_footOf mvX12_footOf k211 rfl rfl rfl (Nat.le_refl _) rfl rfl rfl (p_X12_footOf p fr f (by omega) (by omega) hf hI.2.2.2.1 hpers.2.1 hpers.2.2.1) (fun r1 m1 e1 => ?_)
  obtain ⟨rfl, hF1⟩ := e1
  have g1 : m1 212 = m 212 := hF1.row 212 (fun _ => rfl)
  have hF2 : Fr sRd m m1 := hF1.mono (fun a k q => sT_16 (sRd_T q))
  refine Ev.iadd (q := 26) dX12_walksOne_25 rfl ?_
  refine sI (q := 27) (k := 80 + p) dX12_walksOne_26 k212 (by first | rfl | omega | (simp (disch := omega) only [w32_of]; omega)) (by omega) rfl ?_
  refine Ev.aload_n (q := 28) dX12_walksOne_27 rfl rfl ?_
  refine gR (q := 31) dX12_walksOne_28 gfX12_13 k211 r211_1 rfl rfl ?_
  refine Ev.bipush (q := 33) dX12_walksOne_31 kb_72 rfl ?_
  refine Ev.iload_n (q := 34) dX12_walksOne_33 rfl rfl ?_
  refine Ev.iadd (q := 35) dX12_walksOne_34 rfl ?_
  refine Ev.iload_n (q := 36) dX12_walksOne_35 rfl rfl ?_
  refine sI (q := 37) (k := 72 + p) dX12_walksOne_36 k212 (by first | rfl | omega | (simp (disch := omega) only [w32_of]; omega)) (by omega) rfl ?_
  refine rV dX12_walksOne_37 rfl ?_
  refine ⟨?_, (hF2.up rfl).up rfl⟩
  rw [up_row, up_row, g1]
  unfold walG
  rw [hfr, Int.toNat_natCast]
theorem ridN_step {g : Nat → Int} {l : Nat} {t : Tr} {k j : Nat} (h1 : j ≠ 72 + k) (h2 : j ≠ 80 + k) : ridN g l t k j = ridN g l t (k + 1) j := by
  unfold ridN
  have e1 : (72 ≤ j ∧ j < 72 + k ∧ g (16 + j) = l) ↔ (72 ≤ j ∧ j < 72 + (k + 1) ∧ g (16 + j) = l) := ⟨fun q => ⟨q.1, by omega, q.2.2⟩, fun q => ⟨q.1, by omega, q.2.2⟩⟩
  have e2 : (80 ≤ j ∧ j < 80 + k ∧ g (8 + j) = l) ↔ (80 ≤ j ∧ j < 80 + (k + 1) ∧ g (8 + j) = l) := ⟨fun q => ⟨q.1, by omega, q.2.2⟩, fun q => ⟨q.1, by omega, q.2.2⟩⟩
  simp only [e1, e2]
theorem ridN_not {g : Nat → Int} {l : Nat} {t : Tr} {k : Nat} (hk8 : k < 8) (h9 : ¬ g (88 + k) = l) (j : Nat) : ridN g l t k j = ridN g l t (k + 1) j := by
  by_cases h1 : j = 72 + k
  · unfold ridN
    have e1 : ¬ g (16 + j) = l := by rw [show 16 + j = 88 + k by omega]; exact h9
    have e2 : ¬ (80 ≤ j ∧ j < 80 + k ∧ g (8 + j) = l) := fun q => by omega
    have e3 : ¬ (80 ≤ j ∧ j < 80 + (k + 1) ∧ g (8 + j) = l) := fun q => by omega
    simp only [e1, e2, e3, and_false]
  · by_cases h2 : j = 80 + k
    · unfold ridN
      have e1 : ¬ g (8 + j) = l := by rw [show 8 + j = 88 + k by omega]; exact h9
      have e2 : (72 ≤ j ∧ j < 72 + k ∧ g (16 + j) = l) ↔ (72 ≤ j ∧ j < 72 + (k + 1) ∧ g (16 + j) = l) := ⟨fun q => ⟨q.1, by omega, q.2.2⟩, fun q => ⟨q.1, by omega, q.2.2⟩⟩
      simp only [e1, e2, and_false]
    · exact ridN_step h1 h2
theorem ridN_hi {g : Nat → Int} {l k j : Nat} {t : Tr} (hl : l < 3) (hk : k ≤ 8) (hj : j < 60 ∨ 88 ≤ j) : ridN g l t k j = g j := by
  unfold ridN
  rw [if_neg (by omega), if_neg (by omega), if_neg (by omega), if_neg (by omega), if_neg (fun q => by omega), if_neg (fun q => by omega)]
set_option maxRecDepth 4000 in
theorem l_ridesOne {Γ : Gm} {d : Nat} {m0 : Mem} (l P : Nat) (t : Tr) (hl : l < 3) (hP : P ≤ 8) (h3 : m0 212 3 = P) : ∀ (n k : Nat), k + n = P → ∀ (m : Mem), (∀ j, m 212 j = ridN (m0 212) l t k j) → m 211 19 = t.1 → m 211 22 = t.2.2.2.2 → Fr sRd m0 m → Em Γ (d + 4) MX12_ridesOne (fun r m' => m' 212 = ridN (m0 212) l t P ∧ m' 211 19 = t.1 ∧ Fr sRd m0 m') 72 [rv 211, iv l, iv k] [] m := by
  intro n
  induction n with
  | zero =>
    intro k hk m hv e19 e22 hF0
    obtain rfl : P = k := by omega
    have g3 : m 212 3 = P := by rw [hv, ridN_hi hl hP (by omega)]; exact h3
    refine Ev.iload_n (q := 73) dX12_ridesOne_72 rfl rfl ?_
    refine Ev.aload_n (q := 74) dX12_ridesOne_73 rfl rfl ?_
    refine gR (q := 77) dX12_ridesOne_74 gfX12_13 k211 r211_1 rfl rfl ?_
    refine Ev.iconst (q := 78) dX12_ridesOne_77 ki_3 rfl ?_
    refine aI (q := 79) (k := 3) dX12_ridesOne_78 k212 (by rfl) (by decide) rfl ?_
    rw [g3]
    refine Ev.icmp_ge (tgt := 130) (q := 82) dX12_ridesOne_79 (by decide) rfl (fun h1 => ?_) (fun h1 => ?_)
    · skip
      refine rV dX12_ridesOne_130 rfl ?_
      exact ⟨funext hv, e19, hF0⟩
    · skip
      omega
  | succ n ih =>
    intro k hk m hv e19 e22 hF0
    have g3 : m 212 3 = P := by rw [hv, ridN_hi hl (by omega) (by omega)]; exact h3
    have hv88 : ∀ i, i < 8 → m 212 (88 + i) = m0 212 (88 + i) := fun i hi => by rw [hv, ridN_hi hl (by omega) (by omega)]
    refine Ev.iload_n (q := 73) dX12_ridesOne_72 rfl rfl ?_
    refine Ev.aload_n (q := 74) dX12_ridesOne_73 rfl rfl ?_
    refine gR (q := 77) dX12_ridesOne_74 gfX12_13 k211 r211_1 rfl rfl ?_
    refine Ev.iconst (q := 78) dX12_ridesOne_77 ki_3 rfl ?_
    refine aI (q := 79) (k := 3) dX12_ridesOne_78 k212 (by rfl) (by decide) rfl ?_
    rw [g3]
    refine Ev.icmp_ge (tgt := 130) (q := 82) dX12_ridesOne_79 (by decide) rfl (fun h1 => ?_) (fun h1 => ?_)
    · skip
      omega
    · skip
      refine Ev.aload_n (q := 83) dX12_ridesOne_82 rfl rfl ?_
      refine gR (q := 86) dX12_ridesOne_83 gfX12_13 k211 r211_1 rfl rfl ?_
      refine Ev.bipush (q := 88) dX12_ridesOne_86 kb_88 rfl ?_
      refine Ev.iload_n (q := 89) dX12_ridesOne_88 rfl rfl ?_
      refine Ev.iadd (q := 90) dX12_ridesOne_89 rfl ?_
      refine aI (q := 91) (k := 88 + k) dX12_ridesOne_90 k212 (by first | rfl | omega | (simp (disch := omega) only [w32_of]; omega)) (by omega) rfl ?_
      refine Ev.iload_n (q := 92) dX12_ridesOne_91 rfl rfl ?_
      rw [show m 212 (88 + k) = m0 212 (88 + k) from hv88 k (by omega)]
      refine Ev.icmp_eq (tgt := 98) (q := 95) dX12_ridesOne_92 (by decide) rfl (fun h2 => ?_) (fun h2 => ?_)
      · skip
        have h9 : m0 212 (88 + k) = l := h2
        refine Ev.aload_n (q := 99) dX12_ridesOne_98 rfl rfl ?_
        refine gR (q := 102) dX12_ridesOne_99 gfX12_13 k211 r211_1 rfl rfl ?_
        refine Ev.bipush (q := 104) dX12_ridesOne_102 kb_72 rfl ?_
        refine Ev.iload_n (q := 105) dX12_ridesOne_104 rfl rfl ?_
        refine Ev.iadd (q := 106) dX12_ridesOne_105 rfl ?_
        refine Ev.aload_n (q := 107) dX12_ridesOne_106 rfl rfl ?_
        refine gI (q := 110) dX12_ridesOne_107 gfX12_194 k211 rfl rfl ?_
        refine sI (q := 111) (k := 72 + k) dX12_ridesOne_110 k212 (by first | rfl | omega | (simp (disch := omega) only [w32_of]; omega)) (by omega) rfl ?_
        refine Ev.aload_n (q := 112) dX12_ridesOne_111 rfl rfl ?_
        refine gR (q := 115) dX12_ridesOne_112 gfX12_13 k211 r211_1 rfl rfl ?_
        refine Ev.bipush (q := 117) dX12_ridesOne_115 kb_80 rfl ?_
        refine Ev.iload_n (q := 118) dX12_ridesOne_117 rfl rfl ?_
        refine Ev.iadd (q := 119) dX12_ridesOne_118 rfl ?_
        refine Ev.aload_n (q := 120) dX12_ridesOne_119 rfl rfl ?_
        refine gI (q := 123) dX12_ridesOne_120 gfX12_221 k211 rfl rfl ?_
        refine sI (q := 124) (k := 80 + k) dX12_ridesOne_123 k212 (by first | rfl | omega | (simp (disch := omega) only [w32_of]; omega)) (by omega) rfl ?_
        refine iinc_2 (q := 127) dX12_ridesOne_124 rfl rfl rfl ?_
        refine Ev.goto (q := 72) dX12_ridesOne_127 (by decide) ?_
        rw [w32_of (z := (k : Int) + 1) (by omega) (by omega)]
        refine ih (k + 1) (by omega) _ (fun j => ?_) (by rw [up_o _ _ (by decide), up_o _ _ (by decide)]; exact e19) (by rw [up_o _ _ (by decide), up_o _ _ (by decide)]; exact e22) ((hF0.up rfl).up rfl)
        rw [e19, show up m 212 (72 + k) (t.1 : Int) 211 22 = t.2.2.2.2 by rw [up_o _ _ (by decide)]; exact e22]
        by_cases hj2 : j = 80 + k
        · rw [hj2, up_eq, ridN, if_neg (by omega), if_neg (by omega), if_neg (by omega), if_neg (by omega), if_neg (by omega), if_pos ⟨by omega, by omega, by rw [show 8 + (80 + k) = 88 + k by omega]; exact h9⟩]
        · rw [up_k _ _ hj2]
          by_cases hj1 : j = 72 + k
          · rw [hj1, up_eq, ridN, if_neg (by omega), if_neg (by omega), if_neg (by omega), if_neg (by omega), if_pos ⟨by omega, by omega, by rw [show 16 + (72 + k) = 88 + k by omega]; exact h9⟩]
          · rw [up_k _ _ hj1, hv j, ridN_step hj1 hj2]
      · skip
        have h9 : ¬ m0 212 (88 + k) = l := h2
        refine Ev.goto (q := 124) dX12_ridesOne_95 (by decide) ?_
        refine iinc_2 (q := 127) dX12_ridesOne_124 rfl rfl rfl ?_
        refine Ev.goto (q := 72) dX12_ridesOne_127 (by decide) ?_
        rw [w32_of (z := (k : Int) + 1) (by omega) (by omega)]
        refine ih (k + 1) (by omega) _ (fun j => ?_) e19 e22 hF0
        rw [hv j]
        exact ridN_not (by omega) h9 j
set_option maxRecDepth 4000 in
theorem p_X12_ridesOne {Γ : Gm} {d : Nat} {m : Mem} (l : Nat) (t' : Tr) (hI : HI (m 212)) (hl : (l : Int) < m 212 2) (ht' : tgo (m 212 (22 + l)) (stopV (m 212) l) (liftT (m 212) l) = some t') : Ci Γ (d + 4) MX12_ridesOne [rv 211, iv l] m (fun r m' => m' 212 = ridN (m 212) l t' (m 212 3).toNat ∧ m' 211 19 = t'.1 ∧ Fr sRd m m') := by
  refine Ci.of moX12_ridesOne rfl rfl (fun hA hM => ?_)
  show Em Γ (d + 4) MX12_ridesOne _ 0 [rv 211, iv l, uv] [] m
  have hL3 := hI.2.1
  have hP8 := hI.2.2.1
  have hF12 := hI.1
  have hlift := hI.lift hl
  have hl3 : l < 3 := by omega
  obtain ⟨P, hP3⟩ : ∃ P : Nat, m 212 3 = P := ⟨(m 212 3).toNat, by omega⟩
  obtain ⟨F, hFF⟩ : ∃ F : Nat, m 212 1 = F := ⟨(m 212 1).toNat, by omega⟩
  rw [hP3, Int.toNat_natCast]
  refine Ev.aload_n (q := 1) dX12_ridesOne_0 rfl rfl ?_
  refine Ev.iload_n (q := 2) dX12_ridesOne_1 rfl rfl ?_
  refine cV1v (q := 5) (d' := d + 3) dX12_ridesOne_2 mlX12_234 moX12_loads mvX12_loads k211 rfl rfl rfl (Nat.le_refl _) rfl rfl rfl (p_X12_loads l (by omega) hlift.1.1 hlift.2.1.1) (fun r1 m1 e1 => ?_)
  obtain ⟨hT0, hFl⟩ := e1
  have g1 : m1 212 = m 212 := hFl.row 212 (fun _ => rfl)
  generalize m1 = M0 at *
  refine Ev.aload_n (q := 6) dX12_ridesOne_5 rfl rfl ?_
  refine cV0i (q := 9) (d' := d + 3) dX12_ridesOne_6 mlX12_251 moX12_goes mvX12_goes k211 rfl rfl rfl (Nat.le_refl _) rfl rfl rfl (p_X12_goes l F _ _ _ _ _ hT0 (by have := hI.liftOk hl (tt := m 212 (63 + l)) (u := decide (m 212 (69 + l) = 1)) (c := 0) hlift.2.1.2.1 hlift.2.1.2.2; rw [hFF, Int.toNat_natCast] at this; exact this.1) (by rw [g1]; exact hFF) hl3 (by rw [g1]; exact hI.2.2.2.2.1)) (fun r2 m2 e2 => ?_)
  obtain ⟨eN, eS⟩ := e2
  rw [g1] at eN eS
  obtain ⟨hr9, hT', hfr⟩ := eS t' ht'
  have hF1 := hFl.tr hfr
  generalize m2 = M1 at *
  have g2 : M1 212 = m 212 := by rw [hfr.row 212 (fun _ => rfl)]; exact g1
  obtain ⟨⟨j18, j19, j20, j21, j23⟩, j22⟩ := hT'
  refine Ev.pop (q := 10) dX12_ridesOne_9 (fun z => by cases z) rfl ?_
  refine Ev.aload_n (q := 11) dX12_ridesOne_10 rfl rfl ?_
  refine gR (q := 14) dX12_ridesOne_11 gfX12_13 k211 r211_1 rfl rfl ?_
  refine Ev.bipush (q := 16) dX12_ridesOne_14 kb_60 rfl ?_
  refine Ev.iload_n (q := 17) dX12_ridesOne_16 rfl rfl ?_
  refine Ev.iadd (q := 18) dX12_ridesOne_17 rfl ?_
  refine Ev.aload_n (q := 19) dX12_ridesOne_18 rfl rfl ?_
  refine gI (q := 22) dX12_ridesOne_19 gfX12_194 k211 rfl rfl ?_
  refine sI (q := 23) (k := 60 + l) dX12_ridesOne_22 k212 (by first | rfl | omega | (simp (disch := omega) only [w32_of]; omega)) (by omega) rfl ?_
  refine Ev.aload_n (q := 24) dX12_ridesOne_23 rfl rfl ?_
  refine gR (q := 27) dX12_ridesOne_24 gfX12_13 k211 r211_1 rfl rfl ?_
  refine Ev.bipush (q := 29) dX12_ridesOne_27 kb_63 rfl ?_
  refine Ev.iload_n (q := 30) dX12_ridesOne_29 rfl rfl ?_
  refine Ev.iadd (q := 31) dX12_ridesOne_30 rfl ?_
  refine Ev.aload_n (q := 32) dX12_ridesOne_31 rfl rfl ?_
  refine gI (q := 35) dX12_ridesOne_32 gfX12_197 k211 rfl rfl ?_
  refine sI (q := 36) (k := 63 + l) dX12_ridesOne_35 k212 (by first | rfl | omega | (simp (disch := omega) only [w32_of]; omega)) (by omega) rfl ?_
  refine Ev.aload_n (q := 37) dX12_ridesOne_36 rfl rfl ?_
  refine gR (q := 40) dX12_ridesOne_37 gfX12_13 k211 r211_1 rfl rfl ?_
  refine Ev.bipush (q := 42) dX12_ridesOne_40 kb_66 rfl ?_
  refine Ev.iload_n (q := 43) dX12_ridesOne_42 rfl rfl ?_
  refine Ev.iadd (q := 44) dX12_ridesOne_43 rfl ?_
  refine Ev.aload_n (q := 45) dX12_ridesOne_44 rfl rfl ?_
  refine gI (q := 48) dX12_ridesOne_45 gfX12_200 k211 rfl rfl ?_
  refine sI (q := 49) (k := 66 + l) dX12_ridesOne_48 k212 (by first | rfl | omega | (simp (disch := omega) only [w32_of]; omega)) (by omega) rfl ?_
  refine Ev.aload_n (q := 50) dX12_ridesOne_49 rfl rfl ?_
  refine gR (q := 53) dX12_ridesOne_50 gfX12_13 k211 r211_1 rfl rfl ?_
  refine Ev.bipush (q := 55) dX12_ridesOne_53 kb_69 rfl ?_
  refine Ev.iload_n (q := 56) dX12_ridesOne_55 rfl rfl ?_
  refine Ev.iadd (q := 57) dX12_ridesOne_56 rfl ?_
  refine Ev.aload_n (q := 58) dX12_ridesOne_57 rfl rfl ?_
  refine gI (q := 61) dX12_ridesOne_58 gfX12_203 k211 rfl rfl ?_
  refine Ev.if_eq (tgt := 68) (q := 64) dX12_ridesOne_61 (by decide) rfl (fun h3 => ?_) (fun h3 => ?_)
  · skip
    refine Ev.iconst (q := 69) dX12_ridesOne_68 ki_0 rfl ?_
    refine sI (q := 70) (k := 69 + l) dX12_ridesOne_69 k212 (by first | rfl | omega | (simp (disch := omega) only [w32_of]; omega)) (by omega) rfl ?_
    refine Ev.iconst (q := 71) dX12_ridesOne_70 ki_0 rfl ?_
    refine istore_n_2 (q := 72) dX12_ridesOne_71 rfl rfl rfl ?_
    have hk9 := l_ridesOne (Γ := Γ) (d := d) (m0 := m) l P t' hl3 (by omega) hP3 P 0 (by omega) (up (up (up (up M1 212 (60 + l) t'.1) 212 (63 + l) t'.2.1) 212 (66 + l) t'.2.2.1) 212 (69 + l) 0) (fun j => ?_) (by simp (disch := decide) only [up_o]; exact j19) (by simp (disch := decide) only [up_o]; exact j22) ((((((hF1.mono (fun a k q => sRd_T q)).up rfl).up rfl).up rfl).up rfl))
    · simp (disch := decide) only [up_o, j19, j20, j21, j23]
      exact hk9
    · unfold ridN
      rw [up_row, up_row, up_row, up_row, g2]
      unfold upg
      by_cases q4 : j = 69 + l
      · rw [if_pos q4, if_neg (by omega), if_neg (by omega), if_neg (by omega), if_pos q4]
        rw [if_neg (by intro z; simp (disch := decide) only [up_o, j23, z] at h3; simp at h3)]
      · rw [if_neg q4]
        by_cases q3 : j = 66 + l
        · rw [if_pos q3, if_neg (by omega), if_neg (by omega), if_pos q3]
        · rw [if_neg q3]
          by_cases q2 : j = 63 + l
          · rw [if_pos q2, if_neg (by omega), if_pos q2]
          · rw [if_neg q2]
            by_cases q1 : j = 60 + l
            · rw [if_pos q1, if_pos q1]
            · rw [if_neg q1, if_neg q1, if_neg q2, if_neg q3, if_neg q4, if_neg (by omega), if_neg (by omega)]
  · skip
    refine Ev.iconst (q := 65) dX12_ridesOne_64 ki_1 rfl ?_
    refine Ev.goto (q := 69) dX12_ridesOne_65 (by decide) ?_
    refine sI (q := 70) (k := 69 + l) dX12_ridesOne_69 k212 (by first | rfl | omega | (simp (disch := omega) only [w32_of]; omega)) (by omega) rfl ?_
    refine Ev.iconst (q := 71) dX12_ridesOne_70 ki_0 rfl ?_
    refine istore_n_2 (q := 72) dX12_ridesOne_71 rfl rfl rfl ?_
    have hk9 := l_ridesOne (Γ := Γ) (d := d) (m0 := m) l P t' hl3 (by omega) hP3 P 0 (by omega) (up (up (up (up M1 212 (60 + l) t'.1) 212 (63 + l) t'.2.1) 212 (66 + l) t'.2.2.1) 212 (69 + l) 1) (fun j => ?_) (by simp (disch := decide) only [up_o]; exact j19) (by simp (disch := decide) only [up_o]; exact j22) ((((((hF1.mono (fun a k q => sRd_T q)).up rfl).up rfl).up rfl).up rfl))
    · simp (disch := decide) only [up_o, j19, j20, j21, j23]
      exact hk9
    · unfold ridN
      rw [up_row, up_row, up_row, up_row, g2]
      unfold upg
      by_cases q4 : j = 69 + l
      · rw [if_pos q4, if_neg (by omega), if_neg (by omega), if_neg (by omega), if_pos q4]
        rw [if_pos (by cases hb : t'.2.2.2.1 <;> first | rfl | (simp (disch := decide) only [up_o, j23, hb] at h3; simp at h3))]
      · rw [if_neg q4]
        by_cases q3 : j = 66 + l
        · rw [if_pos q3, if_neg (by omega), if_neg (by omega), if_pos q3]
        · rw [if_neg q3]
          by_cases q2 : j = 63 + l
          · rw [if_pos q2, if_neg (by omega), if_pos q2]
          · rw [if_neg q2]
            by_cases q1 : j = 60 + l
            · rw [if_pos q1, if_pos q1]
            · rw [if_neg q1, if_neg q1, if_neg q2, if_neg q3, if_neg q4, if_neg (by omega), if_neg (by omega)]
