/-! ===== the reference: all sets that fit ===== -/
def sLf (a k : Nat) : Bool := sT a k || (a == 211 && (k == 30 || k == 31)) || a == 219
theorem sLf_T {a k : Nat} (h : sLf a k = false) : sT a k = false := by unfold sLf at h; simp at h; exact h.1.1
def LI (g nm : Nat → Int) (l n : Nat) (m : Mem) (s : Nat) : Prop := m 211 30 = (cntF g nm l n s : Int) ∧ m 211 31 = (allF g nm l n s : Int) ∧ ∀ f, f < (g 1).toNat → m 219 f = (litF g nm l n f s : Int)
theorem LI.keep {g nm : Nat → Int} {l n s : Nat} {m m' : Mem} (h : LI g nm l n m s) (hf : Fr sT m m') : LI g nm l n m' s := ⟨by rw [hf 211 30 rfl]; exact h.1, by rw [hf 211 31 rfl]; exact h.2.1, fun f hf' => by rw [hf 219 f rfl]; exact h.2.2 f hf'⟩
set_option maxRecDepth 4000 in
theorem l_laysI {Γ : Gm} {d : Nat} {m0 : Mem} {Po : Int → Mem → Prop} (t l F N : Nat) (ht : t < 4) (hN : N ≤ 8) (hI : HI (m0 212)) (hl : (l : Int) < m0 212 2) (hFF : m0 212 1 = F) (hnn : ∀ i, i < N → 0 ≤ m0 222 (40 * t + 2 * i)) (x3 : Int) (s : Nat) (hs : s < 4096) (c30 c31 : Int) (hoks : okS (m0 212) (fun i => m0 222 (40 * t + i)) l N s = true)
    (kont : ∀ (m : Mem), Fr sLf m0 m → m 212 = m0 212 → (∀ j, j < F → m 219 j = (litF (m0 212) (fun i => m0 222 (40 * t + i)) l N j (s + 1) : Int)) → m 211 30 = c30 → m 211 31 = c31 → Em Γ (d + 5) MX12_laysFits Po 159 [rv 211, iv t, iv l, iv x3, iv s, iv F] [] m) :
    ∀ (n f : Nat), f + n = F → ∀ (m : Mem), Fr sLf m0 m → m 212 = m0 212 → (∀ j, j < F → m 219 j = (if j < f then (litF (m0 212) (fun i => m0 222 (40 * t + i)) l N j (s + 1) : Int) else (litF (m0 212) (fun i => m0 222 (40 * t + i)) l N j s : Int))) → m 211 30 = c30 → m 211 31 = c31 → Em Γ (d + 5) MX12_laysFits Po 116 [rv 211, iv t, iv l, iv x3, iv s, iv f] [] m := by
  intro n
  induction n with
  | zero =>
    intro f hf m hF0 g12 hin h30 h31
    obtain rfl : F = f := by omega
    have hF9 := hI.1
    have hL3 := hI.2.1
    have hP8 := hI.2.2.1
    refine Ev.iload (q := 118) dX12_laysFits_116 rfl rfl ?_
    refine Ev.aload_n (q := 119) dX12_laysFits_118 rfl rfl ?_
    refine gR (q := 122) dX12_laysFits_119 gfX12_13 k211 r211_1 rfl rfl ?_
    refine Ev.iconst (q := 123) dX12_laysFits_122 ki_1 rfl ?_
    refine aI (q := 124) (k := 1) dX12_laysFits_123 k212 (by rfl) (by decide) rfl ?_
    refine Ev.icmp_ge (tgt := 159) (q := 127) dX12_laysFits_124 (by decide) rfl (fun h1 => ?_) (fun h1 => ?_)
    · skip
      exact kont m hF0 g12 (fun j hj => by rw [hin j hj, if_pos (by omega)]) h30 h31
    · skip
      rw [g12] at h1; omega
  | succ n ih =>
    intro f hf m hF0 g12 hin h30 h31
    have hF9 := hI.1
    have hL3 := hI.2.1
    have hP8 := hI.2.2.1
    refine Ev.iload (q := 118) dX12_laysFits_116 rfl rfl ?_
    refine Ev.aload_n (q := 119) dX12_laysFits_118 rfl rfl ?_
    refine gR (q := 122) dX12_laysFits_119 gfX12_13 k211 r211_1 rfl rfl ?_
    refine Ev.iconst (q := 123) dX12_laysFits_122 ki_1 rfl ?_
    refine aI (q := 124) (k := 1) dX12_laysFits_123 k212 (by rfl) (by decide) rfl ?_
    refine Ev.icmp_ge (tgt := 159) (q := 127) dX12_laysFits_124 (by decide) rfl (fun h1 => ?_) (fun h1 => ?_)
    · skip
      rw [g12] at h1; omega
    · skip
      refine Ev.aload_n (q := 128) dX12_laysFits_127 rfl rfl ?_
      refine gR (q := 131) dX12_laysFits_128 gfX12_39 k211 r211_29 rfl rfl ?_
      refine Ev.iload (q := 133) dX12_laysFits_131 rfl rfl ?_
      refine Ev.dup2 (q := 134) dX12_laysFits_133 (fun z => by cases z) (fun z => by cases z) rfl ?_
      refine aI (q := 135) (k := f) dX12_laysFits_134 k219 (by first | rfl | omega | (simp (disch := omega) only [w32_of]; omega)) (by omega) rfl ?_
      refine Ev.iload (q := 137) dX12_laysFits_135 rfl rfl ?_
      refine Ev.i2l (q := 138) dX12_laysFits_137 rfl ?_
      refine Ev.iload (q := 140) dX12_laysFits_138 rfl rfl ?_
      refine cS2i (q := 143) (d' := d + 4) dX12_laysFits_140 mlX12_207 moX12_isIn msX12_isIn rfl rfl (Nat.le_refl _) rfl rfl rfl (p_X12_isIn s f hs (by omega)) (fun r2 m2 e2 => ?_)
      obtain ⟨rfl, e2⟩ := e2
      obtain rfl := e2.symm
      refine Ev.if_eq (tgt := 150) (q := 146) dX12_laysFits_143 (by decide) rfl (fun h3 => ?_) (fun h3 => ?_)
      · skip
        refine Ev.iconst (q := 151) dX12_laysFits_150 ki_0 rfl ?_
        refine Ev.iadd (q := 152) dX12_laysFits_151 rfl ?_
        refine sI (q := 153) (k := f) dX12_laysFits_152 k219 (by first | rfl | omega | (simp (disch := omega) only [w32_of]; omega)) (by omega) rfl ?_
        refine iinc_5 (q := 156) dX12_laysFits_153 rfl rfl rfl ?_
        refine Ev.goto (q := 116) dX12_laysFits_156 (by decide) ?_
        rw [w32_of (z := (f : Int) + 1) (by omega) (by omega)]
        refine ih (f + 1) (by omega) _ (hF0.up rfl) (by rw [up_na _ _ (by decide)]; exact g12) (fun j hj => ?_) (by rw [up_o _ _ (by decide)]; exact h30) (by rw [up_o _ _ (by decide)]; exact h31)
        have hle := litF_le (m0 212) (fun i => m0 222 (40 * t + i)) l N f s
        by_cases hjf : j = f
        · subst hjf
          rw [up_eq, if_pos (by omega), hin j hj, if_neg (by omega), w32_of (by omega) (by omega)]
          show _ = ((litF (m0 212) (fun i => m0 222 (40 * t + i)) l N j s + (if okS (m0 212) (fun i => m0 222 (40 * t + i)) l N s = true ∧ s.testBit j = true then 1 else 0) : Nat) : Int)
          rw [if_neg (fun q => by have := q.2; split at h3 <;> simp_all)]
          omega
        · rw [up_k _ _ hjf, hin j hj]
          by_cases hlt : j < f
          · rw [if_pos hlt, if_pos (by omega)]
          · rw [if_neg hlt, if_neg (by omega)]
      · skip
        refine Ev.iconst (q := 147) dX12_laysFits_146 ki_1 rfl ?_
        refine Ev.goto (q := 151) dX12_laysFits_147 (by decide) ?_
        refine Ev.iadd (q := 152) dX12_laysFits_151 rfl ?_
        refine sI (q := 153) (k := f) dX12_laysFits_152 k219 (by first | rfl | omega | (simp (disch := omega) only [w32_of]; omega)) (by omega) rfl ?_
        refine iinc_5 (q := 156) dX12_laysFits_153 rfl rfl rfl ?_
        refine Ev.goto (q := 116) dX12_laysFits_156 (by decide) ?_
        rw [w32_of (z := (f : Int) + 1) (by omega) (by omega)]
        refine ih (f + 1) (by omega) _ (hF0.up rfl) (by rw [up_na _ _ (by decide)]; exact g12) (fun j hj => ?_) (by rw [up_o _ _ (by decide)]; exact h30) (by rw [up_o _ _ (by decide)]; exact h31)
        have hle := litF_le (m0 212) (fun i => m0 222 (40 * t + i)) l N f s
        by_cases hjf : j = f
        · subst hjf
          rw [up_eq, if_pos (by omega), hin j hj, if_neg (by omega), w32_of (by omega) (by omega)]
          show _ = ((litF (m0 212) (fun i => m0 222 (40 * t + i)) l N j s + (if okS (m0 212) (fun i => m0 222 (40 * t + i)) l N s = true ∧ s.testBit j = true then 1 else 0) : Nat) : Int)
          rw [if_pos ⟨hoks, by split at h3 <;> simp_all⟩]
          omega
        · rw [up_k _ _ hjf, hin j hj]
          by_cases hlt : j < f
          · rw [if_pos hlt, if_pos (by omega)]
          · rw [if_neg hlt, if_neg (by omega)]
set_option maxRecDepth 4000 in
theorem l_lays {Γ : Gm} {d : Nat} {m0 : Mem} (t l F N : Nat) (ht : t < 4) (hN : N ≤ 8) (hI : HI (m0 212)) (hl : (l : Int) < m0 212 2) (hFF : m0 212 1 = F) (hnn : ∀ i, i < N → 0 ≤ m0 222 (40 * t + 2 * i)) (own : Nat) (h60 : m0 212 (60 + l) = own) : ∀ (n s : Nat), s + n = 2 ^ F → ∀ (v5 : Vl) (m : Mem), Fr sLf m0 m → m 212 = m0 212 → LI (m0 212) (fun i => m0 222 (40 * t + i)) l N m s → Em Γ (d + 5) MX12_laysFits (fun r m' => LI (m0 212) (fun i => m0 222 (40 * t + i)) l N m' (2 ^ F) ∧ Fr sLf m0 m') 46 [rv 211, iv t, iv l, iv ((2 * N : Nat) : Int), iv s, v5] [] m := by
  intro n
  induction n with
  | zero =>
    intro s hsn v5 m hF0 g12 hLI
    obtain rfl : s = 2 ^ F := by omega
    have hF9 := hI.1
    have hL3 := hI.2.1
    have hP8 := hI.2.2.1
    refine Ev.iload (q := 48) dX12_laysFits_46 rfl rfl ?_
    refine Ev.iconst (q := 49) dX12_laysFits_48 ki_1 rfl ?_
    refine Ev.aload_n (q := 50) dX12_laysFits_49 rfl rfl ?_
    refine gR (q := 53) dX12_laysFits_50 gfX12_13 k211 r211_1 rfl rfl ?_
    refine Ev.iconst (q := 54) dX12_laysFits_53 ki_1 rfl ?_
    refine aI (q := 55) (k := 1) dX12_laysFits_54 k212 (by rfl) (by decide) rfl ?_
    rw [g12, hFF]
    refine Ev.ishl (q := 56) dX12_laysFits_55 rfl ?_
    rw [ishl_1 F (by omega)]
    refine Ev.icmp_ge (tgt := 165) (q := 59) dX12_laysFits_56 (by decide) rfl (fun h1 => ?_) (fun h1 => ?_)
    · skip
      refine rV dX12_laysFits_165 rfl ?_
      exact ⟨hLI, hF0⟩
    · skip
      omega
  | succ n ih =>
    intro s hsn v5 m hF0 g12 hLI
    have hF9 := hI.1
    have hL3 := hI.2.1
    have hP8 := hI.2.2.1
    have n12 : m 222 = m0 222 := hF0.row 222 (fun _ => rfl)
    have h4096 : 2 ^ F ≤ 4096 := by have : 2 ^ F ≤ 2 ^ 12 := Nat.pow_le_pow_right (by decide) (by omega); omega
    have hlift := hI.lift hl
    refine Ev.iload (q := 48) dX12_laysFits_46 rfl rfl ?_
    refine Ev.iconst (q := 49) dX12_laysFits_48 ki_1 rfl ?_
    refine Ev.aload_n (q := 50) dX12_laysFits_49 rfl rfl ?_
    refine gR (q := 53) dX12_laysFits_50 gfX12_13 k211 r211_1 rfl rfl ?_
    refine Ev.iconst (q := 54) dX12_laysFits_53 ki_1 rfl ?_
    refine aI (q := 55) (k := 1) dX12_laysFits_54 k212 (by rfl) (by decide) rfl ?_
    rw [g12, hFF]
    refine Ev.ishl (q := 56) dX12_laysFits_55 rfl ?_
    rw [ishl_1 F (by omega)]
    refine Ev.icmp_ge (tgt := 165) (q := 59) dX12_laysFits_56 (by decide) rfl (fun h1 => ?_) (fun h1 => ?_)
    · skip
      omega
    · skip
      refine Ev.iload (q := 61) dX12_laysFits_59 rfl rfl ?_
      refine Ev.i2l (q := 62) dX12_laysFits_61 rfl ?_
      refine Ev.aload_n (q := 63) dX12_laysFits_62 rfl rfl ?_
      refine gR (q := 66) dX12_laysFits_63 gfX12_13 k211 r211_1 rfl rfl ?_
      refine Ev.bipush (q := 68) dX12_laysFits_66 kb_60 rfl ?_
      refine Ev.iload_n (q := 69) dX12_laysFits_68 rfl rfl ?_
      refine Ev.iadd (q := 70) dX12_laysFits_69 rfl ?_
      refine aI (q := 71) (k := 60 + l) dX12_laysFits_70 k212 (by first | rfl | omega | (simp (disch := omega) only [w32_of]; omega)) (by omega) rfl ?_
      rw [g12, h60]
      refine cS2i (q := 74) (d' := d + 4) dX12_laysFits_71 mlX12_207 moX12_isIn msX12_isIn rfl rfl (Nat.le_refl _) rfl rfl rfl (p_X12_isIn s own (by omega) (by omega)) (fun r2 m2 e2 => ?_)
      obtain ⟨rfl, e2⟩ := e2
      obtain rfl := e2.symm
      refine Ev.if_ne (tgt := 159) (q := 77) dX12_laysFits_74 (by decide) rfl (fun h3 => ?_) (fun h3 => ?_)
      · skip
        have hbo : s.testBit own = true := by split at h3 <;> simp_all
        have hno : ¬ okS (m0 212) (fun i => m0 222 (40 * t + i)) l N s = true := by unfold okS; rw [h60, Int.toNat_natCast, hbo]; simp
        refine iinc_4 (q := 162) dX12_laysFits_159 rfl rfl rfl ?_
        refine Ev.goto (q := 46) dX12_laysFits_162 (by decide) ?_
        rw [w32_of (by omega) (by omega)]
        refine ih (s + 1) (by omega) v5 _ hF0 g12 ⟨?_, ?_, fun f hf => ?_⟩
        · rw [hLI.1]; show _ = ((cntF (m0 212) (fun i => m0 222 (40 * t + i)) l N s + (if okS (m0 212) (fun i => m0 222 (40 * t + i)) l N s = true then 1 else 0) : Nat) : Int); rw [if_neg hno]; omega
        · rw [hLI.2.1]; conv => rhs; unfold allF
          rw [if_neg hno]
        · rw [hLI.2.2 f hf]; show _ = ((litF (m0 212) (fun i => m0 222 (40 * t + i)) l N f s + (if okS (m0 212) (fun i => m0 222 (40 * t + i)) l N s = true ∧ s.testBit f = true then 1 else 0) : Nat) : Int); rw [if_neg (fun q => hno q.1)]; omega
      · skip
        have hbo : s.testBit own = false := by split at h3 <;> simp_all
        have hlok : litOk (m0 212) l s := ⟨by rw [hFF, Int.toNat_natCast]; omega, by rw [h60, Int.toNat_natCast]; exact hbo⟩
        refine Ev.aload_n (q := 78) dX12_laysFits_77 rfl rfl ?_
        refine Ev.iload_n (q := 79) dX12_laysFits_78 rfl rfl ?_
        refine Ev.iload_n (q := 80) dX12_laysFits_79 rfl rfl ?_
        refine Ev.iload (q := 82) dX12_laysFits_80 rfl rfl ?_
        refine Ev.iload_n (q := 83) dX12_laysFits_82 rfl rfl ?_
        refine cV4i (q := 86) (d' := d + 4) dX12_laysFits_83 mlX12_424 moX12_fits mvX12_fits k211 rfl rfl rfl (Nat.le_refl _) rfl rfl rfl (p_X12_fits t l s N ht hN (by rw [g12]; exact hI) (by rw [g12]; exact hl) (by rw [g12]; exact hlok) (by rw [n12]; exact hnn)) (fun r4 m4 e4 => ?_)
        obtain ⟨rfl, hfr⟩ := e4
        rw [g12, n12]
        have hF1 := hF0.tr (hfr.mono (fun a k q => sLf_T q))
        have hLI1 := hLI.keep hfr
        generalize m4 = M1 at *
        have g1 : M1 212 = m0 212 := by rw [hfr.row 212 (fun _ => rfl)]; exact g12
        refine Ev.if_ne (tgt := 92) (q := 89) dX12_laysFits_86 (by decide) rfl (fun h5 => ?_) (fun h5 => ?_)
        · skip
          have hoks : okS (m0 212) (fun i => m0 222 (40 * t + i)) l N s = true := by unfold okS; rw [h60, Int.toNat_natCast, hbo]; split at h5 <;> simp_all
          refine Ev.aload_n (q := 93) dX12_laysFits_92 rfl rfl ?_
          refine Ev.dup (q := 94) dX12_laysFits_93 (fun z => by cases z) rfl ?_
          refine gI (q := 97) dX12_laysFits_94 gfX12_418 k211 rfl rfl ?_
          rw [hLI1.1]
          refine Ev.iconst (q := 98) dX12_laysFits_97 ki_1 rfl ?_
          refine Ev.iadd (q := 99) dX12_laysFits_98 rfl ?_
          refine pI (q := 102) dX12_laysFits_99 gfX12_418 k211 rfl rfl ?_
          refine Ev.aload_n (q := 103) dX12_laysFits_102 rfl rfl ?_
          refine Ev.dup (q := 104) dX12_laysFits_103 (fun z => by cases z) rfl ?_
          refine gI (q := 107) dX12_laysFits_104 gfX12_421 k211 rfl rfl ?_
          rw [up_k _ _ (by decide), hLI1.2.1]
          refine Ev.iload (q := 109) dX12_laysFits_107 rfl rfl ?_
          refine Ev.iand (q := 110) dX12_laysFits_109 rfl ?_
          rw [iand_n (by have := allF_lt (nm := fun i => m0 222 (40 * t + i)) (l := l) (n := N) hI.F12 s; omega)]
          refine pI (q := 113) dX12_laysFits_110 gfX12_421 k211 rfl rfl ?_
          refine Ev.iconst (q := 114) dX12_laysFits_113 ki_0 rfl ?_
          refine istore_5 (q := 116) dX12_laysFits_114 rfl rfl rfl ?_
          have hc9 := cntF_le (m0 212) (fun i => m0 222 (40 * t + i)) l N s
          refine l_laysI (m0 := m0) t l F N ht hN hI hl hFF hnn ((2 * N : Nat) : Int) s (by omega) (w32 ((cntF (m0 212) (fun i => m0 222 (40 * t + i)) l N s : Int) + 1)) ((allF (m0 212) (fun i => m0 222 (40 * t + i)) l N s &&& s : Nat) : Int) hoks (fun M3 hF3 g3 hin3 h303 h313 => ?_) F 0 (by omega) _ ((hF1.up rfl).up rfl) (by rw [up_na _ _ (by decide), up_na _ _ (by decide)]; exact g1) (fun j hj => by rw [if_neg (by omega), up_o _ _ (by decide), up_o _ _ (by decide)]; exact hLI1.2.2 j (by rw [hFF, Int.toNat_natCast]; exact hj)) (by rw [up_k _ _ (by decide), up_eq]) (up_eq _ _ _ _)
          refine iinc_4 (q := 162) dX12_laysFits_159 rfl rfl rfl ?_
          refine Ev.goto (q := 46) dX12_laysFits_162 (by decide) ?_
          rw [w32_of (by omega) (by omega)]
          refine ih (s + 1) (by omega) _ _ hF3 g3 ⟨?_, ?_, fun f hf => ?_⟩
          · rw [h303, w32_of (by omega) (by omega)]; show _ = ((cntF (m0 212) (fun i => m0 222 (40 * t + i)) l N s + (if okS (m0 212) (fun i => m0 222 (40 * t + i)) l N s = true then 1 else 0) : Nat) : Int); rw [if_pos hoks]; omega
          · rw [h313]; conv => rhs; unfold allF
            rw [if_pos hoks]
          · exact hin3 f (by rw [hFF, Int.toNat_natCast] at hf; exact hf)
        · skip
          have hno : ¬ okS (m0 212) (fun i => m0 222 (40 * t + i)) l N s = true := by unfold okS; rw [h60, Int.toNat_natCast, hbo]; split at h5 <;> simp_all
          refine Ev.goto (q := 159) dX12_laysFits_89 (by decide) ?_
          refine iinc_4 (q := 162) dX12_laysFits_159 rfl rfl rfl ?_
          refine Ev.goto (q := 46) dX12_laysFits_162 (by decide) ?_
          rw [w32_of (by omega) (by omega)]
          refine ih (s + 1) (by omega) v5 _ hF1 g1 ⟨?_, ?_, fun f hf => ?_⟩
          · rw [hLI1.1]; show _ = ((cntF (m0 212) (fun i => m0 222 (40 * t + i)) l N s + (if okS (m0 212) (fun i => m0 222 (40 * t + i)) l N s = true then 1 else 0) : Nat) : Int); rw [if_neg hno]; omega
          · rw [hLI1.2.1]; conv => rhs; unfold allF
            rw [if_neg hno]
          · rw [hLI1.2.2 f hf]; show _ = ((litF (m0 212) (fun i => m0 222 (40 * t + i)) l N f s + (if okS (m0 212) (fun i => m0 222 (40 * t + i)) l N s = true ∧ s.testBit f = true then 1 else 0) : Nat) : Int); rw [if_neg (fun q => hno q.1)]; omega
set_option maxRecDepth 4000 in
theorem l_laysC {Γ : Gm} {d : Nat} {m0 : Mem} {Po : Int → Mem → Prop} (t l : Nat) (x3 c30 c31 : Int)
    (kont : ∀ (m : Mem), Fr sLf m0 m → m 211 30 = c30 → m 211 31 = c31 → (∀ j, j < 12 → m 219 j = 0) → Em Γ (d + 5) MX12_laysFits Po 43 [rv 211, iv t, iv l, iv x3, iv 12, uv] [] m) :
    ∀ (n j : Nat), j + n = 12 → ∀ (m : Mem), Fr sLf m0 m → m 211 30 = c30 → m 211 31 = c31 → (∀ q, q < j → m 219 q = 0) → Em Γ (d + 5) MX12_laysFits Po 22 [rv 211, iv t, iv l, iv x3, iv j, uv] [] m := by
  intro n
  induction n with
  | zero =>
    intro j hj m hF0 h30 h31 hz
    obtain rfl : j = 12 := by omega
    refine Ev.iload (q := 24) dX12_laysFits_22 rfl rfl ?_
    refine Ev.bipush (q := 26) dX12_laysFits_24 kb_12 rfl ?_
    refine Ev.icmp_ge (tgt := 43) (q := 29) dX12_laysFits_26 (by decide) rfl (fun h1 => ?_) (fun h1 => ?_)
    · skip
      exact kont m hF0 h30 h31 (fun q hq => hz q (by omega))
    · skip
      omega
  | succ n ih =>
    intro j hj m hF0 h30 h31 hz
    refine Ev.iload (q := 24) dX12_laysFits_22 rfl rfl ?_
    refine Ev.bipush (q := 26) dX12_laysFits_24 kb_12 rfl ?_
    refine Ev.icmp_ge (tgt := 43) (q := 29) dX12_laysFits_26 (by decide) rfl (fun h1 => ?_) (fun h1 => ?_)
    · skip
      omega
    · skip
      refine Ev.aload_n (q := 30) dX12_laysFits_29 rfl rfl ?_
      refine gR (q := 33) dX12_laysFits_30 gfX12_39 k211 r211_29 rfl rfl ?_
      refine Ev.iload (q := 35) dX12_laysFits_33 rfl rfl ?_
      refine Ev.iconst (q := 36) dX12_laysFits_35 ki_0 rfl ?_
      refine sI (q := 37) (k := j) dX12_laysFits_36 k219 (by first | rfl | omega | (simp (disch := omega) only [w32_of]; omega)) (by omega) rfl ?_
      refine iinc_4 (q := 40) dX12_laysFits_37 rfl rfl rfl ?_
      refine Ev.goto (q := 22) dX12_laysFits_40 (by decide) ?_
      rw [w32_of (by omega) (by omega)]
      refine ih (j + 1) (by omega) _ (hF0.up rfl) (by rw [up_o _ _ (by decide)]; exact h30) (by rw [up_o _ _ (by decide)]; exact h31) (fun q hq => ?_)
      by_cases hqj : q = j
      · rw [hqj, up_eq]
      · rw [up_k _ _ hqj]; exact hz q (by omega)
set_option maxRecDepth 4000 in
theorem p_X12_laysFits {Γ : Gm} {d : Nat} {m : Mem} (t l N : Nat) (ht : t < 4) (hN : N ≤ 8) (hI : HI (m 212)) (hl : (l : Int) < m 212 2) (hnn : ∀ i, i < N → 0 ≤ m 222 (40 * t + 2 * i)) : Ci Γ (d + 5) MX12_laysFits [rv 211, iv t, iv l, iv ((2 * N : Nat) : Int)] m (fun r m' => LI (m 212) (fun i => m 222 (40 * t + i)) l N m' (2 ^ (m 212 1).toNat) ∧ Fr sLf m m') := by
  refine Ci.of moX12_laysFits rfl rfl (fun hA hM => ?_)
  show Em Γ (d + 5) MX12_laysFits _ 0 [rv 211, iv t, iv l, iv ((2 * N : Nat) : Int), uv, uv] [] m
  have hF9 := hI.1
  have hL3 := hI.2.1
  have hP8 := hI.2.2.1
  have hlift := hI.lift hl
  obtain ⟨F, hFF⟩ : ∃ F : Nat, m 212 1 = F := ⟨(m 212 1).toNat, by omega⟩
  obtain ⟨own, e60⟩ : ∃ own : Nat, m 212 (60 + l) = own := ⟨(m 212 (60 + l)).toNat, by omega⟩
  have h4096 : 2 ^ F ≤ 4096 := by have : 2 ^ F ≤ 2 ^ 12 := Nat.pow_le_pow_right (by decide) (by omega); omega
  have hpos := Nat.two_pow_pos F
  refine Ev.aload_n (q := 1) dX12_laysFits_0 rfl rfl ?_
  refine Ev.iconst (q := 2) dX12_laysFits_1 ki_0 rfl ?_
  refine pI (q := 5) dX12_laysFits_2 gfX12_418 k211 rfl rfl ?_
  refine Ev.aload_n (q := 6) dX12_laysFits_5 rfl rfl ?_
  refine Ev.iconst (q := 7) dX12_laysFits_6 ki_1 rfl ?_
  refine Ev.aload_n (q := 8) dX12_laysFits_7 rfl rfl ?_
  refine gR (q := 11) dX12_laysFits_8 gfX12_13 k211 r211_1 rfl rfl ?_
  refine Ev.iconst (q := 12) dX12_laysFits_11 ki_1 rfl ?_
  refine aI (q := 13) (k := 1) dX12_laysFits_12 k212 (by rfl) (by decide) rfl ?_
  rw [up_na _ _ (by decide), hFF]
  refine Ev.ishl (q := 14) dX12_laysFits_13 rfl ?_
  rw [ishl_1 F (by omega)]
  refine Ev.iconst (q := 15) dX12_laysFits_14 ki_1 rfl ?_
  refine Ev.isub (q := 16) dX12_laysFits_15 rfl ?_
  refine pI (q := 19) dX12_laysFits_16 gfX12_421 k211 rfl rfl ?_
  refine Ev.iconst (q := 20) dX12_laysFits_19 ki_0 rfl ?_
  refine istore_4 (q := 22) dX12_laysFits_20 rfl rfl rfl ?_
  refine l_laysC (m0 := m) t l _ 0 (w32 (((2 ^ F : Nat) : Int) - 1)) (fun M3 hF3 h303 h313 hz3 => ?_) 12 0 (by omega) _ (((Fr.rf _ _).up rfl).up rfl) (by rw [up_k _ _ (by decide), up_eq]) (up_eq _ _ _ _) (fun q hq => by omega)
  refine Ev.iconst (q := 44) dX12_laysFits_43 ki_0 rfl ?_
  refine istore_4 (q := 46) dX12_laysFits_44 rfl rfl rfl ?_
  have hk9 := l_lays (Γ := Γ) (d := d) (m0 := m) t l F N ht hN hI hl hFF hnn own e60 (2 ^ F) 0 (by omega) uv M3 hF3 (hF3.row 212 (fun _ => rfl)) ⟨h303, by rw [h313, w32_of (by omega) (by omega)]; unfold allF; rw [hFF, Int.toNat_natCast]; omega, fun f hf => by rw [hz3 f (by omega)]; rfl⟩
  exact hk9
