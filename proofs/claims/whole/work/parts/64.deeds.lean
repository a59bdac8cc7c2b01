/-! ===== the class: deeds ===== -/
def sDe (n a k : Nat) : Bool := sN n a k || a == 67
def sDf (n a k : Nat) : Bool := sN n a k || (a == 66 || a == 67)
theorem sDe_f {n a k : Nat} (h : ¬ (n < a ∧ a ≤ n + 7)) (h7 : a ≠ 67) : sDe n a k = false := by unfold sDe; rw [sN_f h]; simp [h7]
theorem sDf_f {n a k : Nat} (h : ¬ (n < a ∧ a ≤ n + 7)) (h6 : a ≠ 66) (h7 : a ≠ 67) : sDf n a k = false := by unfold sDf; rw [sN_f h]; simp [h6, h7]
theorem sDe_t {n i k : Nat} (h1 : 1 ≤ i) (h2 : i ≤ 7) : sDe n (n + i) k = true := by unfold sDe; rw [show sN n (n + i) k = true from decide_eq_true (by omega)]; rfl
theorem sDf_66 {n k : Nat} : sDf n 66 k = true := by unfold sDf; simp
theorem Fr.toDe {n : Nat} {m m' : Mem} (h : Fr (sA 67) m m') : Fr (sDe n) m m' := h.mono (fun a k q => by unfold sDe at q; unfold sA; simp at q ⊢; exact q.2)
theorem Fr.toDf {n : Nat} {m m' : Mem} (h : Fr (sDe n) m m') : Fr (sDf n) m m' := h.mono (fun a k q => by unfold sDf at q; unfold sDe; simp at q ⊢; exact ⟨q.1, q.2.2⟩)
theorem whyP_1 {g : Row} {l f : Int} {off : Bool} (h : ¬ ((0 ≤ l ∧ l < g 2) ∧ (0 ≤ f ∧ f < g 1))) : whyP g l f off = 1 := by
  unfold whyP isL isF
  rw [if_pos]
  by_cases q : 0 ≤ l ∧ l < g 2
  · exact Or.inr (decide_eq_false (fun z => h ⟨q, z⟩))
  · exact Or.inl (decide_eq_false q)
theorem whyP_on {g : Row} {l f : Nat} (hl : (l : Int) < g 2) (hf : (f : Int) < g 1) : whyP g l f false = if (litV g l).testBit f = true ∨ g (60 + l) = f then 2 else 0 := by
  unfold whyP isL isF
  rw [if_neg (by rw [decide_eq_true (show 0 ≤ (l : Int) ∧ (l : Int) < g 2 from ⟨by omega, hl⟩), decide_eq_true (show 0 ≤ (f : Int) ∧ (f : Int) < g 1 from ⟨by omega, hf⟩)]; simp)]
  rfl
theorem whyP_off {g : Row} {l f : Nat} (hl : (l : Int) < g 2) (hf : (f : Int) < g 1) : whyP g l f true = if (litV g l).testBit f = true then 0 else 2 := by
  unfold whyP isL isF
  rw [if_neg (by rw [decide_eq_true (show 0 ≤ (l : Int) ∧ (l : Int) < g 2 from ⟨by omega, hl⟩), decide_eq_true (show 0 ≤ (f : Int) ∧ (f : Int) < g 1 from ⟨by omega, hf⟩)]; simp)]
  rfl
theorem whyR_1 {g : Row} {l : Int} (h : ¬ (0 ≤ l ∧ l < g 2)) : whyR g l = 1 := by unfold whyR isL; rw [if_pos (decide_eq_false h)]
theorem whyR_n {g : Row} {l : Nat} (hl : (l : Int) < g 2) : whyR g l = if litV g l = 0 then 2 else 0 := by
  unfold whyR isL
  rw [if_neg (by rw [decide_eq_true (show 0 ≤ (l : Int) ∧ (l : Int) < g 2 from ⟨by omega, hl⟩)]; simp)]
  rfl
theorem whyO_1 {g : Row} {p : Int} (h : ¬ (0 ≤ p ∧ p < g 3)) : whyO g p = 1 := by unfold whyO isP; rw [if_pos (decide_eq_false h)]
theorem whyO_n {g : Row} {p : Nat} (hp : (p : Int) < g 3) : whyO g p = if g (88 + p) = -1 then 2 else 0 := by
  unfold whyO isP
  rw [if_neg (by rw [decide_eq_true (show 0 ≤ (p : Int) ∧ (p : Int) < g 3 from ⟨by omega, hp⟩)]; simp)]
  rfl
theorem whyI_1 {g : Row} {p l : Int} (h : ¬ ((0 ≤ p ∧ p < g 3) ∧ (0 ≤ l ∧ l < g 2))) : whyI g p l = 1 := by
  unfold whyI isL isP
  rw [if_pos]
  by_cases q : 0 ≤ p ∧ p < g 3
  · exact Or.inr (decide_eq_false (fun z => h ⟨q, z⟩))
  · exact Or.inl (decide_eq_false q)
theorem whyI_n {g : Row} {p l : Nat} (hp : (p : Int) < g 3) (hl : (l : Int) < g 2) : whyI g p l = if g (88 + p) = -1 then (if g (60 + l) = g (72 + p) then 0 else 3) else 2 := by
  unfold whyI isL isP
  rw [if_neg (by rw [decide_eq_true (show 0 ≤ (l : Int) ∧ (l : Int) < g 2 from ⟨by omega, hl⟩), decide_eq_true (show 0 ≤ (p : Int) ∧ (p : Int) < g 3 from ⟨by omega, hp⟩)]; simp)]
  rfl
theorem whyW_1 {g : Row} {p f : Int} (h : ¬ ((0 ≤ p ∧ p < g 3) ∧ (0 ≤ f ∧ f < g 1))) : whyW g p f = 1 := by
  unfold whyW isF isP
  rw [if_pos]
  by_cases q : 0 ≤ p ∧ p < g 3
  · exact Or.inr (decide_eq_false (fun z => h ⟨q, z⟩))
  · exact Or.inl (decide_eq_false q)
theorem whyW_n {g : Row} {p f : Nat} (hp : (p : Int) < g 3) (hf : (f : Int) < g 1) : whyW g p f = if ¬ g (88 + p) = -1 ∨ g (72 + p) = f then 2 else 0 := by
  unfold whyW isF isP
  rw [if_neg (by rw [decide_eq_true (show 0 ≤ (f : Int) ∧ (f : Int) < g 1 from ⟨by omega, hf⟩), decide_eq_true (show 0 ≤ (p : Int) ∧ (p : Int) < g 3 from ⟨by omega, hp⟩)]; simp)]
  rfl
theorem ridN_0 {g : Row} {l : Nat} {t : Tr} (hl : l < 3) : ridN g l t 0 = upg (upg (upg (upg g (60 + l) t.1) (63 + l) t.2.1) (66 + l) t.2.2.1) (69 + l) (if t.2.2.2.1 = true then 1 else 0) := by
  funext j
  unfold ridN upg
  by_cases e1 : j = 60 + l
  · rw [if_pos e1, if_neg (by omega), if_neg (by omega), if_neg (by omega), if_pos e1]
  · rw [if_neg e1]
    by_cases e2 : j = 63 + l
    · rw [if_pos e2, if_neg (by omega), if_neg (by omega), if_pos e2]
    · rw [if_neg e2]
      by_cases e3 : j = 66 + l
      · rw [if_pos e3, if_neg (by omega), if_pos e3]
      · rw [if_neg e3]
        by_cases e4 : j = 69 + l
        · rw [if_pos e4, if_pos e4]
        · rw [if_neg e4, if_neg (by omega), if_neg (by omega), if_neg e4, if_neg e3, if_neg e2, if_neg e1]
theorem ridN_in {g : Row} {l k : Nat} {t : Tr} (hl : l < 3) (hk : k < 8) (h : g (88 + k) = l) : ridN g l t (k + 1) = upg (upg (ridN g l t k) (72 + k) t.1) (80 + k) t.2.2.2.2 := by
  funext j
  by_cases e1 : j = 80 + k
  · subst e1
    rw [upg_eq]
    unfold ridN
    rw [if_neg (by omega), if_neg (by omega), if_neg (by omega), if_neg (by omega), if_neg (by omega), if_pos ⟨by omega, by omega, by rw [show 8 + (80 + k) = 88 + k by omega]; exact h⟩]
  · rw [upg_ne _ _ e1]
    by_cases e2 : j = 72 + k
    · subst e2
      rw [upg_eq]
      unfold ridN
      rw [if_neg (by omega), if_neg (by omega), if_neg (by omega), if_neg (by omega), if_pos ⟨by omega, by omega, by rw [show 16 + (72 + k) = 88 + k by omega]; exact h⟩]
    · rw [upg_ne _ _ e2]
      exact (ridN_step e2 e1).symm
theorem ridN_out {g : Row} {l k : Nat} {t : Tr} (hk : k < 8) (h : ¬ g (88 + k) = l) : ridN g l t (k + 1) = ridN g l t k := funext fun j => (ridN_not hk h j).symm
set_option maxRecDepth 4000 in
theorem p_X0_lightOn {Γ : Gm} {d : Nat} {m : Mem} (g : Row) (n : Nat) (l f : Int) (hn : n ∈ nowC) (hI : HI g) (hH : HouR g m 33) (hR : NowR g m n) : Ci Γ (d + 1) MX0_lightOn [rv 66, rv n, iv l, iv f] m (fun r m' => r = whyP g l f false ∧ NowR (if whyP g l f false = 0 then doD g 0 l.toNat f.toNat else g) m' n ∧ Fr (sDe n) m m') := by
  refine Ci.of moX0_lightOn rfl rfl (fun hA hM => ?_)
  show Em Γ (d + 1) MX0_lightOn _ 0 [rv 66, rv n, iv l, iv f] [] m
  obtain ⟨nwK, ⟨nwr0, nwr1, nwr2, nwr3, nwr4, nwr5, nwr6⟩, nwK0, nwK1, nwK2, nwK3, nwK4, nwK5, nwK6, nwN⟩ := nowK n hn
  obtain ⟨n0, n1, n2, n3⟩ := hH.n0
  have hF12 := hI.1
  have hL3 := hI.2.1
  have hP8 := hI.2.2.1
  refine Ev.aload_n (q := 1) dX0_lightOn_0 rfl rfl ?_
  refine gR (q := 4) dX0_lightOn_1 gfX0_18 k66 r66_0 rfl rfl ?_
  refine Ev.iload_n (q := 5) dX0_lightOn_4 rfl rfl ?_
  refine cV1i (q := 8) (d' := d + 0) dX0_lightOn_5 mlX0_31 moX1_hasLift mvX1_hasLift k33 rfl rfl rfl (Nat.le_refl _) rfl rfl rfl (p_X1_hasLift l) (fun r1 m1 e1 => ?_)
  obtain ⟨rfl, e1⟩ := e1
  obtain rfl := e1.symm
  rw [n2]
  refine Ev.if_eq (tgt := 22) (q := 11) dX0_lightOn_8 (by decide) rfl (fun h2 => ?_) (fun h2 => ?_)
  · skip
    have hLL : ¬ (0 ≤ l ∧ l < g 2) := by split at h2 <;> omega
    refine Ev.iconst (q := 23) dX0_lightOn_22 ki_1 rfl ?_
    refine rI dX0_lightOn_23 rfl ?_
    rw [whyP_1 (by omega)]
    exact ⟨rfl, by rw [if_neg (by decide)]; exact hR, Fr.rf _ _⟩
  · skip
    have hLL : 0 ≤ l ∧ l < g 2 := by split at h2 <;> omega
    obtain ⟨ln, rfl⟩ : ∃ ln : Nat, l = ln := ⟨l.toNat, by omega⟩
    have hlln : (ln : Int) < g 2 := hLL.2
    have qlln := hI.lift hlln
    obtain ⟨a1ln, a2ln, a3ln, a4ln⟩ := hR.1 ln hlln
    have a3'ln : m (n + 3) ln = ((litV g ln : Nat) : Int) := by rw [a3ln]; unfold litV; have := qlln.2.1.1; omega
    have hsln : litV g ln < 4096 := lt4096 qlln.2.1.2.1 hI.F12
    refine Ev.aload_n (q := 12) dX0_lightOn_11 rfl rfl ?_
    refine gR (q := 15) dX0_lightOn_12 gfX0_18 k66 r66_0 rfl rfl ?_
    refine Ev.iload_n (q := 16) dX0_lightOn_15 rfl rfl ?_
    refine cV1i (q := 19) (d' := d + 0) dX0_lightOn_16 mlX0_37 moX1_hasFloor mvX1_hasFloor k33 rfl rfl rfl (Nat.le_refl _) rfl rfl rfl (p_X1_hasFloor f) (fun r3 m3 e3 => ?_)
    obtain ⟨rfl, e3⟩ := e3
    obtain rfl := e3.symm
    rw [n0]
    refine Ev.if_ne (tgt := 24) (q := 22) dX0_lightOn_19 (by decide) rfl (fun h4 => ?_) (fun h4 => ?_)
    · skip
      have hFF : 0 ≤ f ∧ f < g 1 := by split at h4 <;> omega
      obtain ⟨fn, rfl⟩ : ∃ fn : Nat, f = fn := ⟨f.toNat, by omega⟩
      have hffn : (fn : Int) < g 1 := hFF.2
      refine Ev.aload_n (q := 25) dX0_lightOn_24 rfl rfl ?_
      refine Ev.iload_n (q := 26) dX0_lightOn_25 rfl rfl ?_
      refine Ev.iload_n (q := 27) dX0_lightOn_26 rfl rfl ?_
      refine cV2i (q := 30) (d' := d + 0) dX0_lightOn_27 mlX0_40 moX4_isLit mvX4_isLit nwK rfl rfl rfl (Nat.le_refl _) rfl rfl rfl (p_X4_isLit n ln fn (litV g ln) hn (by omega) (by omega) a3'ln hsln) (fun r5 m5 e5 => ?_)
      obtain ⟨rfl, e5⟩ := e5
      obtain rfl := e5.symm
      refine Ev.if_ne (tgt := 43) (q := 33) dX0_lightOn_30 (by decide) rfl (fun h6 => ?_) (fun h6 => ?_)
      · skip
        have hb : (litV g ln).testBit fn = true := by split at h6 <;> first | assumption | omega
        refine Ev.iconst (q := 44) dX0_lightOn_43 ki_2 rfl ?_
        refine rI dX0_lightOn_44 rfl ?_
        have ew : whyP g ln fn false = 2 := by rw [whyP_on hlln hffn, if_pos (Or.inl hb)]
        rw [ew]
        exact ⟨rfl, by rw [if_neg (by decide)]; exact hR, Fr.rf _ _⟩
      · skip
        have hb : ¬ (litV g ln).testBit fn = true := by split at h6 <;> first | omega | assumption
        refine Ev.aload_n (q := 34) dX0_lightOn_33 rfl rfl ?_
        refine gR (q := 37) dX0_lightOn_34 gfX0_46 nwK nwr0 rfl rfl ?_
        refine Ev.iload_n (q := 38) dX0_lightOn_37 rfl rfl ?_
        refine aI (q := 39) (k := ln) dX0_lightOn_38 nwK0 (by first | rfl | omega | (simp (disch := omega) only [w32_of]; omega)) (by omega) rfl ?_
        rw [a1ln]
        refine Ev.iload_n (q := 40) dX0_lightOn_39 rfl rfl ?_
        refine Ev.icmp_ne (tgt := 45) (q := 43) dX0_lightOn_40 (by decide) rfl (fun h7 => ?_) (fun h7 => ?_)
        · skip
          refine Ev.aload_n (q := 46) dX0_lightOn_45 rfl rfl ?_
          refine gR (q := 49) dX0_lightOn_46 gfX0_50 nwK nwr2 rfl rfl ?_
          refine Ev.iload_n (q := 50) dX0_lightOn_49 rfl rfl ?_
          refine Ev.dup2 (q := 51) dX0_lightOn_50 (fun z => by cases z) (fun z => by cases z) rfl ?_
          refine aI (q := 52) (k := ln) dX0_lightOn_51 nwK2 (by first | rfl | omega | (simp (disch := omega) only [w32_of]; omega)) (by omega) rfl ?_
          rw [a3'ln]
          refine Ev.iconst (q := 53) dX0_lightOn_52 ki_1 rfl ?_
          refine Ev.iload_n (q := 54) dX0_lightOn_53 rfl rfl ?_
          refine Ev.ishl (q := 55) dX0_lightOn_54 rfl ?_
          refine Ev.ior (q := 56) dX0_lightOn_55 rfl ?_
          rw [ishl_1 fn (by omega), ior_n (k := 12) hsln (two_lt (by omega)) (by omega)]
          refine sI (q := 57) (k := ln) dX0_lightOn_56 nwK2 (by first | rfl | omega | (simp (disch := omega) only [w32_of]; omega)) (by omega) rfl ?_
          refine Ev.iconst (q := 58) dX0_lightOn_57 ki_0 rfl ?_
          refine rI dX0_lightOn_58 rfl ?_
          have ew : whyP g ln fn false = 0 := by rw [whyP_on hlln hffn, if_neg (fun z => z.elim hb (by assumption))]
          rw [ew, if_pos rfl]
          exact ⟨rfl, NowR_3 hR hL3.2 hP8.2 (by omega) _, (Fr.rf _ _).up (sDe_t (by omega) (by omega))⟩
        · skip
          refine Ev.iconst (q := 44) dX0_lightOn_43 ki_2 rfl ?_
          refine rI dX0_lightOn_44 rfl ?_
          have ew : whyP g ln fn false = 2 := by rw [whyP_on hlln hffn, if_pos (Or.inr (by omega))]
          rw [ew]
          exact ⟨rfl, by rw [if_neg (by decide)]; exact hR, Fr.rf _ _⟩
    · skip
      have hFF : ¬ (0 ≤ f ∧ f < g 1) := by split at h4 <;> omega
      refine Ev.iconst (q := 23) dX0_lightOn_22 ki_1 rfl ?_
      refine rI dX0_lightOn_23 rfl ?_
      rw [whyP_1 (by omega)]
      exact ⟨rfl, by rw [if_neg (by decide)]; exact hR, Fr.rf _ _⟩
set_option maxRecDepth 4000 in
theorem p_X0_lightOff {Γ : Gm} {d : Nat} {m : Mem} (g : Row) (n : Nat) (l f : Int) (hn : n ∈ nowC) (hI : HI g) (hH : HouR g m 33) (hR : NowR g m n) : Ci Γ (d + 1) MX0_lightOff [rv 66, rv n, iv l, iv f] m (fun r m' => r = whyP g l f true ∧ NowR (if whyP g l f true = 0 then doD g 1 l.toNat f.toNat else g) m' n ∧ Fr (sDe n) m m') := by
  refine Ci.of moX0_lightOff rfl rfl (fun hA hM => ?_)
  show Em Γ (d + 1) MX0_lightOff _ 0 [rv 66, rv n, iv l, iv f] [] m
  obtain ⟨nwK, ⟨nwr0, nwr1, nwr2, nwr3, nwr4, nwr5, nwr6⟩, nwK0, nwK1, nwK2, nwK3, nwK4, nwK5, nwK6, nwN⟩ := nowK n hn
  obtain ⟨n0, n1, n2, n3⟩ := hH.n0
  have hF12 := hI.1
  have hL3 := hI.2.1
  have hP8 := hI.2.2.1
  refine Ev.aload_n (q := 1) dX0_lightOff_0 rfl rfl ?_
  refine gR (q := 4) dX0_lightOff_1 gfX0_18 k66 r66_0 rfl rfl ?_
  refine Ev.iload_n (q := 5) dX0_lightOff_4 rfl rfl ?_
  refine cV1i (q := 8) (d' := d + 0) dX0_lightOff_5 mlX0_31 moX1_hasLift mvX1_hasLift k33 rfl rfl rfl (Nat.le_refl _) rfl rfl rfl (p_X1_hasLift l) (fun r1 m1 e1 => ?_)
  obtain ⟨rfl, e1⟩ := e1
  obtain rfl := e1.symm
  rw [n2]
  refine Ev.if_eq (tgt := 22) (q := 11) dX0_lightOff_8 (by decide) rfl (fun h2 => ?_) (fun h2 => ?_)
  · skip
    have hLL : ¬ (0 ≤ l ∧ l < g 2) := by split at h2 <;> omega
    refine Ev.iconst (q := 23) dX0_lightOff_22 ki_1 rfl ?_
    refine rI dX0_lightOff_23 rfl ?_
    rw [whyP_1 (by omega)]
    exact ⟨rfl, by rw [if_neg (by decide)]; exact hR, Fr.rf _ _⟩
  · skip
    have hLL : 0 ≤ l ∧ l < g 2 := by split at h2 <;> omega
    obtain ⟨ln, rfl⟩ : ∃ ln : Nat, l = ln := ⟨l.toNat, by omega⟩
    have hlln : (ln : Int) < g 2 := hLL.2
    have qlln := hI.lift hlln
    obtain ⟨a1ln, a2ln, a3ln, a4ln⟩ := hR.1 ln hlln
    have a3'ln : m (n + 3) ln = ((litV g ln : Nat) : Int) := by rw [a3ln]; unfold litV; have := qlln.2.1.1; omega
    have hsln : litV g ln < 4096 := lt4096 qlln.2.1.2.1 hI.F12
    refine Ev.aload_n (q := 12) dX0_lightOff_11 rfl rfl ?_
    refine gR (q := 15) dX0_lightOff_12 gfX0_18 k66 r66_0 rfl rfl ?_
    refine Ev.iload_n (q := 16) dX0_lightOff_15 rfl rfl ?_
    refine cV1i (q := 19) (d' := d + 0) dX0_lightOff_16 mlX0_37 moX1_hasFloor mvX1_hasFloor k33 rfl rfl rfl (Nat.le_refl _) rfl rfl rfl (p_X1_hasFloor f) (fun r3 m3 e3 => ?_)
    obtain ⟨rfl, e3⟩ := e3
    obtain rfl := e3.symm
    rw [n0]
    refine Ev.if_ne (tgt := 24) (q := 22) dX0_lightOff_19 (by decide) rfl (fun h4 => ?_) (fun h4 => ?_)
    · skip
      have hFF : 0 ≤ f ∧ f < g 1 := by split at h4 <;> omega
      obtain ⟨fn, rfl⟩ : ∃ fn : Nat, f = fn := ⟨f.toNat, by omega⟩
      have hffn : (fn : Int) < g 1 := hFF.2
      refine Ev.aload_n (q := 25) dX0_lightOff_24 rfl rfl ?_
      refine Ev.iload_n (q := 26) dX0_lightOff_25 rfl rfl ?_
      refine Ev.iload_n (q := 27) dX0_lightOff_26 rfl rfl ?_
      refine cV2i (q := 30) (d' := d + 0) dX0_lightOff_27 mlX0_40 moX4_isLit mvX4_isLit nwK rfl rfl rfl (Nat.le_refl _) rfl rfl rfl (p_X4_isLit n ln fn (litV g ln) hn (by omega) (by omega) a3'ln hsln) (fun r5 m5 e5 => ?_)
      obtain ⟨rfl, e5⟩ := e5
      obtain rfl := e5.symm
      refine Ev.if_ne (tgt := 35) (q := 33) dX0_lightOff_30 (by decide) rfl (fun h6 => ?_) (fun h6 => ?_)
      · skip
        have hb : (litV g ln).testBit fn = true := by split at h6 <;> first | assumption | omega
        refine Ev.aload_n (q := 36) dX0_lightOff_35 rfl rfl ?_
        refine gR (q := 39) dX0_lightOff_36 gfX0_50 nwK nwr2 rfl rfl ?_
        refine Ev.iload_n (q := 40) dX0_lightOff_39 rfl rfl ?_
        refine Ev.dup2 (q := 41) dX0_lightOff_40 (fun z => by cases z) (fun z => by cases z) rfl ?_
        refine aI (q := 42) (k := ln) dX0_lightOff_41 nwK2 (by first | rfl | omega | (simp (disch := omega) only [w32_of]; omega)) (by omega) rfl ?_
        rw [a3'ln]
        refine Ev.iconst (q := 43) dX0_lightOff_42 ki_1 rfl ?_
        refine Ev.iload_n (q := 44) dX0_lightOff_43 rfl rfl ?_
        refine Ev.ishl (q := 45) dX0_lightOff_44 rfl ?_
        refine Ev.ixor (q := 46) dX0_lightOff_45 rfl ?_
        rw [xor_lit hsln (by omega) hb]
        refine sI (q := 47) (k := ln) dX0_lightOff_46 nwK2 (by first | rfl | omega | (simp (disch := omega) only [w32_of]; omega)) (by omega) rfl ?_
        refine Ev.iconst (q := 48) dX0_lightOff_47 ki_0 rfl ?_
        refine rI dX0_lightOff_48 rfl ?_
        have ew : whyP g ln fn true = 0 := by rw [whyP_off hlln hffn, if_pos hb]
        rw [ew, if_pos rfl]
        exact ⟨rfl, NowR_3 hR hL3.2 hP8.2 (by omega) _, (Fr.rf _ _).up (sDe_t (by omega) (by omega))⟩
      · skip
        have hb : ¬ (litV g ln).testBit fn = true := by split at h6 <;> first | omega | assumption
        refine Ev.iconst (q := 34) dX0_lightOff_33 ki_2 rfl ?_
        refine rI dX0_lightOff_34 rfl ?_
        have ew : whyP g ln fn true = 2 := by rw [whyP_off hlln hffn, if_neg hb]
        rw [ew]
        exact ⟨rfl, by rw [if_neg (by decide)]; exact hR, Fr.rf _ _⟩
    · skip
      have hFF : ¬ (0 ≤ f ∧ f < g 1) := by split at h4 <;> omega
      refine Ev.iconst (q := 23) dX0_lightOff_22 ki_1 rfl ?_
      refine rI dX0_lightOff_23 rfl ?_
      rw [whyP_1 (by omega)]
      exact ⟨rfl, by rw [if_neg (by decide)]; exact hR, Fr.rf _ _⟩
set_option maxRecDepth 4000 in
theorem p_X0_getOut {Γ : Gm} {d : Nat} {m : Mem} (g : Row) (n : Nat) (p : Int) (hn : n ∈ nowC) (hI : HI g) (hH : HouR g m 33) (hR : NowR g m n) : Ci Γ (d + 1) MX0_getOut [rv 66, rv n, iv p] m (fun r m' => r = whyO g p ∧ NowR (if whyO g p = 0 then doD g 3 p.toNat 0 else g) m' n ∧ Fr (sDe n) m m') := by
  refine Ci.of moX0_getOut rfl rfl (fun hA hM => ?_)
  show Em Γ (d + 1) MX0_getOut _ 0 [rv 66, rv n, iv p] [] m
  obtain ⟨nwK, ⟨nwr0, nwr1, nwr2, nwr3, nwr4, nwr5, nwr6⟩, nwK0, nwK1, nwK2, nwK3, nwK4, nwK5, nwK6, nwN⟩ := nowK n hn
  obtain ⟨n0, n1, n2, n3⟩ := hH.n0
  have hF12 := hI.1
  have hL3 := hI.2.1
  have hP8 := hI.2.2.1
  refine Ev.aload_n (q := 1) dX0_getOut_0 rfl rfl ?_
  refine gR (q := 4) dX0_getOut_1 gfX0_18 k66 r66_0 rfl rfl ?_
  refine Ev.iload_n (q := 5) dX0_getOut_4 rfl rfl ?_
  refine cV1i (q := 8) (d' := d + 0) dX0_getOut_5 mlX0_92 moX1_hasPerson mvX1_hasPerson k33 rfl rfl rfl (Nat.le_refl _) rfl rfl rfl (p_X1_hasPerson p) (fun r1 m1 e1 => ?_)
  obtain ⟨rfl, e1⟩ := e1
  obtain rfl := e1.symm
  rw [n3]
  refine Ev.if_ne (tgt := 13) (q := 11) dX0_getOut_8 (by decide) rfl (fun h2 => ?_) (fun h2 => ?_)
  · skip
    have hPP : 0 ≤ p ∧ p < g 3 := by split at h2 <;> omega
    obtain ⟨pn, rfl⟩ : ∃ pn : Nat, p = pn := ⟨p.toNat, by omega⟩
    have hppn : (pn : Int) < g 3 := hPP.2
    have qppn := hI.pers hppn
    obtain ⟨a5pn, a6pn, a7pn⟩ := hR.2 pn hppn
    refine Ev.aload_n (q := 14) dX0_getOut_13 rfl rfl ?_
    refine gR (q := 17) dX0_getOut_14 gfX0_80 nwK nwr6 rfl rfl ?_
    refine Ev.iload_n (q := 18) dX0_getOut_17 rfl rfl ?_
    refine aI (q := 19) (k := pn) dX0_getOut_18 nwK6 (by first | rfl | omega | (simp (disch := omega) only [w32_of]; omega)) (by omega) rfl ?_
    rw [a7pn]
    refine Ev.iconst (q := 20) dX0_getOut_19 ki_m1 rfl ?_
    refine Ev.icmp_ne (tgt := 25) (q := 23) dX0_getOut_20 (by decide) rfl (fun h3 => ?_) (fun h3 => ?_)
    · skip
      refine Ev.aload_n (q := 26) dX0_getOut_25 rfl rfl ?_
      refine gR (q := 29) dX0_getOut_26 gfX0_80 nwK nwr6 rfl rfl ?_
      refine Ev.iload_n (q := 30) dX0_getOut_29 rfl rfl ?_
      refine Ev.iconst (q := 31) dX0_getOut_30 ki_m1 rfl ?_
      refine sI (q := 32) (k := pn) dX0_getOut_31 nwK6 (by first | rfl | omega | (simp (disch := omega) only [w32_of]; omega)) (by omega) rfl ?_
      refine Ev.iconst (q := 33) dX0_getOut_32 ki_0 rfl ?_
      refine rI dX0_getOut_33 rfl ?_
      have ew : whyO g pn = 0 := by rw [whyO_n hppn, if_neg (by assumption)]
      rw [ew, if_pos rfl]
      exact ⟨rfl, NowR_7 hR hL3.2 hP8.2 (by omega) _, (Fr.rf _ _).up (sDe_t (by omega) (by omega))⟩
    · skip
      refine Ev.iconst (q := 24) dX0_getOut_23 ki_2 rfl ?_
      refine rI dX0_getOut_24 rfl ?_
      have ew : whyO g pn = 2 := by rw [whyO_n hppn, if_pos (by omega)]
      rw [ew]
      exact ⟨rfl, by rw [if_neg (by decide)]; exact hR, Fr.rf _ _⟩
  · skip
    have hPP : ¬ (0 ≤ p ∧ p < g 3) := by split at h2 <;> omega
    refine Ev.iconst (q := 12) dX0_getOut_11 ki_1 rfl ?_
    refine rI dX0_getOut_12 rfl ?_
    rw [whyO_1 (by omega)]
    exact ⟨rfl, by rw [if_neg (by decide)]; exact hR, Fr.rf _ _⟩
theorem NowR_get {g : Row} {m : Mem} {n p l : Nat} (h : NowR g m n) (h2 : g 2 ≤ 3) (h3 : g 3 ≤ 8) (hp : (p : Int) < g 3) (hl : (l : Int) < g 2) : NowR (getG g p l) (up (up m (n + 7) p (l : Int)) (n + 2) l (if g (63 + l) < g (80 + p) then g (80 + p) else g (63 + l))) n := by
  unfold getG
  have h7 := NowR_7 h h2 h3 (k := p) (by omega) (l : Int)
  split
  · exact NowR_2 h7 (by rw [upg_ne _ _ (by omega)]; exact h2) (by rw [upg_ne _ _ (by omega)]; exact h3) (by omega) _
  · have h9 := NowR_2 h7 (by rw [upg_ne _ _ (by omega)]; exact h2) (by rw [upg_ne _ _ (by omega)]; exact h3) (k := l) (by omega) (g (63 + l))
    have e : upg (upg g (88 + p) (l : Int)) (63 + l) (g (63 + l)) = upg g (88 + p) (l : Int) := by
      funext j
      unfold upg
      by_cases q : j = 63 + l
      · rw [if_pos q, if_neg (by omega), q]
      · rw [if_neg q]
    rw [e] at h9
    exact h9
set_option maxRecDepth 4000 in
theorem p_X0_getIn {Γ : Gm} {d : Nat} {m : Mem} (g : Row) (n : Nat) (p l : Int) (hn : n ∈ nowC) (hI : HI g) (hH : HouR g m 33) (hR : NowR g m n) : Ci Γ (d + 1) MX0_getIn [rv 66, rv n, iv p, iv l] m (fun r m' => r = whyI g p l ∧ NowR (if whyI g p l = 0 then doD g 4 p.toNat l.toNat else g) m' n ∧ Fr (sDe n) m m') := by
  refine Ci.of moX0_getIn rfl rfl (fun hA hM => ?_)
  show Em Γ (d + 1) MX0_getIn _ 0 [rv 66, rv n, iv p, iv l] [] m
  obtain ⟨nwK, ⟨nwr0, nwr1, nwr2, nwr3, nwr4, nwr5, nwr6⟩, nwK0, nwK1, nwK2, nwK3, nwK4, nwK5, nwK6, nwN⟩ := nowK n hn
  obtain ⟨n0, n1, n2, n3⟩ := hH.n0
  have hF12 := hI.1
  have hL3 := hI.2.1
  have hP8 := hI.2.2.1
  refine Ev.aload_n (q := 1) dX0_getIn_0 rfl rfl ?_
  refine gR (q := 4) dX0_getIn_1 gfX0_18 k66 r66_0 rfl rfl ?_
  refine Ev.iload_n (q := 5) dX0_getIn_4 rfl rfl ?_
  refine cV1i (q := 8) (d' := d + 0) dX0_getIn_5 mlX0_92 moX1_hasPerson mvX1_hasPerson k33 rfl rfl rfl (Nat.le_refl _) rfl rfl rfl (p_X1_hasPerson p) (fun r1 m1 e1 => ?_)
  obtain ⟨rfl, e1⟩ := e1
  obtain rfl := e1.symm
  rw [n3]
  refine Ev.if_eq (tgt := 22) (q := 11) dX0_getIn_8 (by decide) rfl (fun h2 => ?_) (fun h2 => ?_)
  · skip
    have hPP : ¬ (0 ≤ p ∧ p < g 3) := by split at h2 <;> omega
    refine Ev.iconst (q := 23) dX0_getIn_22 ki_1 rfl ?_
    refine rI dX0_getIn_23 rfl ?_
    rw [whyI_1 (by omega)]
    exact ⟨rfl, by rw [if_neg (by decide)]; exact hR, Fr.rf _ _⟩
  · skip
    have hPP : 0 ≤ p ∧ p < g 3 := by split at h2 <;> omega
    obtain ⟨pn, rfl⟩ : ∃ pn : Nat, p = pn := ⟨p.toNat, by omega⟩
    have hppn : (pn : Int) < g 3 := hPP.2
    have qppn := hI.pers hppn
    obtain ⟨a5pn, a6pn, a7pn⟩ := hR.2 pn hppn
    refine Ev.aload_n (q := 12) dX0_getIn_11 rfl rfl ?_
    refine gR (q := 15) dX0_getIn_12 gfX0_18 k66 r66_0 rfl rfl ?_
    refine Ev.iload_n (q := 16) dX0_getIn_15 rfl rfl ?_
    refine cV1i (q := 19) (d' := d + 0) dX0_getIn_16 mlX0_31 moX1_hasLift mvX1_hasLift k33 rfl rfl rfl (Nat.le_refl _) rfl rfl rfl (p_X1_hasLift l) (fun r3 m3 e3 => ?_)
    obtain ⟨rfl, e3⟩ := e3
    obtain rfl := e3.symm
    rw [n2]
    refine Ev.if_ne (tgt := 24) (q := 22) dX0_getIn_19 (by decide) rfl (fun h4 => ?_) (fun h4 => ?_)
    · skip
      have hLL : 0 ≤ l ∧ l < g 2 := by split at h4 <;> omega
      obtain ⟨ln, rfl⟩ : ∃ ln : Nat, l = ln := ⟨l.toNat, by omega⟩
      have hlln : (ln : Int) < g 2 := hLL.2
      have qlln := hI.lift hlln
      obtain ⟨a1ln, a2ln, a3ln, a4ln⟩ := hR.1 ln hlln
      have a3'ln : m (n + 3) ln = ((litV g ln : Nat) : Int) := by rw [a3ln]; unfold litV; have := qlln.2.1.1; omega
      have hsln : litV g ln < 4096 := lt4096 qlln.2.1.2.1 hI.F12
      refine Ev.aload_n (q := 25) dX0_getIn_24 rfl rfl ?_
      refine gR (q := 28) dX0_getIn_25 gfX0_80 nwK nwr6 rfl rfl ?_
      refine Ev.iload_n (q := 29) dX0_getIn_28 rfl rfl ?_
      refine aI (q := 30) (k := pn) dX0_getIn_29 nwK6 (by first | rfl | omega | (simp (disch := omega) only [w32_of]; omega)) (by omega) rfl ?_
      rw [a7pn]
      refine Ev.iconst (q := 31) dX0_getIn_30 ki_m1 rfl ?_
      refine Ev.icmp_eq (tgt := 36) (q := 34) dX0_getIn_31 (by decide) rfl (fun h5 => ?_) (fun h5 => ?_)
      · skip
        refine Ev.aload_n (q := 37) dX0_getIn_36 rfl rfl ?_
        refine gR (q := 40) dX0_getIn_37 gfX0_83 nwK nwr4 rfl rfl ?_
        refine Ev.iload_n (q := 41) dX0_getIn_40 rfl rfl ?_
        refine aI (q := 42) (k := pn) dX0_getIn_41 nwK4 (by first | rfl | omega | (simp (disch := omega) only [w32_of]; omega)) (by omega) rfl ?_
        rw [a5pn]
        refine Ev.aload_n (q := 43) dX0_getIn_42 rfl rfl ?_
        refine gR (q := 46) dX0_getIn_43 gfX0_46 nwK nwr0 rfl rfl ?_
        refine Ev.iload_n (q := 47) dX0_getIn_46 rfl rfl ?_
        refine aI (q := 48) (k := ln) dX0_getIn_47 nwK0 (by first | rfl | omega | (simp (disch := omega) only [w32_of]; omega)) (by omega) rfl ?_
        rw [a1ln]
        refine Ev.icmp_eq (tgt := 53) (q := 51) dX0_getIn_48 (by decide) rfl (fun h6 => ?_) (fun h6 => ?_)
        · skip
          refine Ev.aload_n (q := 54) dX0_getIn_53 rfl rfl ?_
          refine gR (q := 57) dX0_getIn_54 gfX0_80 nwK nwr6 rfl rfl ?_
          refine Ev.iload_n (q := 58) dX0_getIn_57 rfl rfl ?_
          refine Ev.iload_n (q := 59) dX0_getIn_58 rfl rfl ?_
          refine sI (q := 60) (k := pn) dX0_getIn_59 nwK6 (by first | rfl | omega | (simp (disch := omega) only [w32_of]; omega)) (by omega) rfl ?_
          refine Ev.aload_n (q := 61) dX0_getIn_60 rfl rfl ?_
          refine gR (q := 64) dX0_getIn_61 gfX0_64 nwK nwr1 rfl rfl ?_
          refine Ev.iload_n (q := 65) dX0_getIn_64 rfl rfl ?_
          refine Ev.aload_n (q := 66) dX0_getIn_65 rfl rfl ?_
          refine gR (q := 69) dX0_getIn_66 gfX0_64 nwK nwr1 rfl rfl ?_
          refine Ev.iload_n (q := 70) dX0_getIn_69 rfl rfl ?_
          refine aI (q := 71) (k := ln) dX0_getIn_70 nwK1 (by first | rfl | omega | (simp (disch := omega) only [w32_of]; omega)) (by omega) rfl ?_
          rw [up_o _ _ (by omega), a2ln]
          refine Ev.aload_n (q := 72) dX0_getIn_71 rfl rfl ?_
          refine gR (q := 75) dX0_getIn_72 gfX0_86 nwK nwr5 rfl rfl ?_
          refine Ev.iload_n (q := 76) dX0_getIn_75 rfl rfl ?_
          refine aI (q := 77) (k := pn) dX0_getIn_76 nwK5 (by first | rfl | omega | (simp (disch := omega) only [w32_of]; omega)) (by omega) rfl ?_
          rw [up_o _ _ (by omega), a6pn]
          refine cS2i (q := 80) (d' := d + 0) dX0_getIn_77 mlX0_95 moJ9_max_7cf53 msJ9_max_7cf53 rfl rfl (Nat.le_refl _) rfl rfl rfl (p_J9_max_7cf53 _ _) (fun r7 m7 e7 => ?_)
          obtain ⟨rfl, e7⟩ := e7
          obtain rfl := e7.symm
          refine sI (q := 81) (k := ln) dX0_getIn_80 nwK1 (by first | rfl | omega | (simp (disch := omega) only [w32_of]; omega)) (by omega) rfl ?_
          refine Ev.iconst (q := 82) dX0_getIn_81 ki_0 rfl ?_
          refine rI dX0_getIn_82 rfl ?_
          have ew : whyI g pn ln = 0 := by rw [whyI_n hppn hlln, if_pos (by assumption), if_pos (by omega)]
          rw [ew, if_pos rfl]
          exact ⟨rfl, NowR_get hR hL3.2 hP8.2 hppn hlln, ((Fr.rf _ _).up (sDe_t (by omega) (by omega))).up (sDe_t (by omega) (by omega))⟩
        · skip
          refine Ev.iconst (q := 52) dX0_getIn_51 ki_3 rfl ?_
          refine rI dX0_getIn_52 rfl ?_
          have ew : whyI g pn ln = 3 := by rw [whyI_n hppn hlln, if_pos (by assumption), if_neg (by omega)]
          rw [ew]
          exact ⟨rfl, by rw [if_neg (by decide)]; exact hR, Fr.rf _ _⟩
      · skip
        refine Ev.iconst (q := 35) dX0_getIn_34 ki_2 rfl ?_
        refine rI dX0_getIn_35 rfl ?_
        have ew : whyI g pn ln = 2 := by rw [whyI_n hppn hlln, if_neg (by assumption)]
        rw [ew]
        exact ⟨rfl, by rw [if_neg (by decide)]; exact hR, Fr.rf _ _⟩
    · skip
      have hLL : ¬ (0 ≤ l ∧ l < g 2) := by split at h4 <;> omega
      refine Ev.iconst (q := 23) dX0_getIn_22 ki_1 rfl ?_
      refine rI dX0_getIn_23 rfl ?_
      rw [whyI_1 (by omega)]
      exact ⟨rfl, by rw [if_neg (by decide)]; exact hR, Fr.rf _ _⟩
set_option maxRecDepth 4000 in
theorem p_X0_walkTo {Γ : Gm} {d : Nat} {m : Mem} (g : Row) (n : Nat) (p f : Int) (hn : n ∈ nowC) (hI : HI g) (hH : HouR g m 33) (hR : NowR g m n) : Ci Γ (d + 1) MX0_walkTo [rv 66, rv n, iv p, iv f] m (fun r m' => r = whyW g p f ∧ NowR (if whyW g p f = 0 then doD g 5 p.toNat f.toNat else g) m' n ∧ Fr (sDe n) m m') := by
  refine Ci.of moX0_walkTo rfl rfl (fun hA hM => ?_)
  show Em Γ (d + 1) MX0_walkTo _ 0 [rv 66, rv n, iv p, iv f] [] m
  obtain ⟨nwK, ⟨nwr0, nwr1, nwr2, nwr3, nwr4, nwr5, nwr6⟩, nwK0, nwK1, nwK2, nwK3, nwK4, nwK5, nwK6, nwN⟩ := nowK n hn
  obtain ⟨n0, n1, n2, n3⟩ := hH.n0
  have hF12 := hI.1
  have hL3 := hI.2.1
  have hP8 := hI.2.2.1
  refine Ev.aload_n (q := 1) dX0_walkTo_0 rfl rfl ?_
  refine gR (q := 4) dX0_walkTo_1 gfX0_18 k66 r66_0 rfl rfl ?_
  refine Ev.iload_n (q := 5) dX0_walkTo_4 rfl rfl ?_
  refine cV1i (q := 8) (d' := d + 0) dX0_walkTo_5 mlX0_92 moX1_hasPerson mvX1_hasPerson k33 rfl rfl rfl (Nat.le_refl _) rfl rfl rfl (p_X1_hasPerson p) (fun r1 m1 e1 => ?_)
  obtain ⟨rfl, e1⟩ := e1
  obtain rfl := e1.symm
  rw [n3]
  refine Ev.if_eq (tgt := 22) (q := 11) dX0_walkTo_8 (by decide) rfl (fun h2 => ?_) (fun h2 => ?_)
  · skip
    have hPP : ¬ (0 ≤ p ∧ p < g 3) := by split at h2 <;> omega
    refine Ev.iconst (q := 23) dX0_walkTo_22 ki_1 rfl ?_
    refine rI dX0_walkTo_23 rfl ?_
    rw [whyW_1 (by omega)]
    exact ⟨rfl, by rw [if_neg (by decide)]; exact hR, Fr.rf _ _⟩
  · skip
    have hPP : 0 ≤ p ∧ p < g 3 := by split at h2 <;> omega
    obtain ⟨pn, rfl⟩ : ∃ pn : Nat, p = pn := ⟨p.toNat, by omega⟩
    have hppn : (pn : Int) < g 3 := hPP.2
    have qppn := hI.pers hppn
    obtain ⟨a5pn, a6pn, a7pn⟩ := hR.2 pn hppn
    refine Ev.aload_n (q := 12) dX0_walkTo_11 rfl rfl ?_
    refine gR (q := 15) dX0_walkTo_12 gfX0_18 k66 r66_0 rfl rfl ?_
    refine Ev.iload_n (q := 16) dX0_walkTo_15 rfl rfl ?_
    refine cV1i (q := 19) (d' := d + 0) dX0_walkTo_16 mlX0_37 moX1_hasFloor mvX1_hasFloor k33 rfl rfl rfl (Nat.le_refl _) rfl rfl rfl (p_X1_hasFloor f) (fun r3 m3 e3 => ?_)
    obtain ⟨rfl, e3⟩ := e3
    obtain rfl := e3.symm
    rw [n0]
    refine Ev.if_ne (tgt := 24) (q := 22) dX0_walkTo_19 (by decide) rfl (fun h4 => ?_) (fun h4 => ?_)
    · skip
      have hFF : 0 ≤ f ∧ f < g 1 := by split at h4 <;> omega
      obtain ⟨fn, rfl⟩ : ∃ fn : Nat, f = fn := ⟨f.toNat, by omega⟩
      have hffn : (fn : Int) < g 1 := hFF.2
      refine Ev.aload_n (q := 25) dX0_walkTo_24 rfl rfl ?_
      refine gR (q := 28) dX0_walkTo_25 gfX0_80 nwK nwr6 rfl rfl ?_
      refine Ev.iload_n (q := 29) dX0_walkTo_28 rfl rfl ?_
      refine aI (q := 30) (k := pn) dX0_walkTo_29 nwK6 (by first | rfl | omega | (simp (disch := omega) only [w32_of]; omega)) (by omega) rfl ?_
      rw [a7pn]
      refine Ev.iconst (q := 31) dX0_walkTo_30 ki_m1 rfl ?_
      refine Ev.icmp_ne (tgt := 44) (q := 34) dX0_walkTo_31 (by decide) rfl (fun h5 => ?_) (fun h5 => ?_)
      · skip
        refine Ev.iconst (q := 45) dX0_walkTo_44 ki_2 rfl ?_
        refine rI dX0_walkTo_45 rfl ?_
        have ew : whyW g pn fn = 2 := by rw [whyW_n hppn hffn, if_pos (Or.inl (by assumption))]
        rw [ew]
        exact ⟨rfl, by rw [if_neg (by decide)]; exact hR, Fr.rf _ _⟩
      · skip
        refine Ev.aload_n (q := 35) dX0_walkTo_34 rfl rfl ?_
        refine gR (q := 38) dX0_walkTo_35 gfX0_83 nwK nwr4 rfl rfl ?_
        refine Ev.iload_n (q := 39) dX0_walkTo_38 rfl rfl ?_
        refine aI (q := 40) (k := pn) dX0_walkTo_39 nwK4 (by first | rfl | omega | (simp (disch := omega) only [w32_of]; omega)) (by omega) rfl ?_
        rw [a5pn]
        refine Ev.iload_n (q := 41) dX0_walkTo_40 rfl rfl ?_
        refine Ev.icmp_ne (tgt := 46) (q := 44) dX0_walkTo_41 (by decide) rfl (fun h6 => ?_) (fun h6 => ?_)
        · skip
          refine Ev.aload_n (q := 47) dX0_walkTo_46 rfl rfl ?_
          refine gR (q := 50) dX0_walkTo_47 gfX0_86 nwK nwr5 rfl rfl ?_
          refine Ev.iload_n (q := 51) dX0_walkTo_50 rfl rfl ?_
          refine Ev.dup2 (q := 52) dX0_walkTo_51 (fun z => by cases z) (fun z => by cases z) rfl ?_
          refine aI (q := 53) (k := pn) dX0_walkTo_52 nwK5 (by first | rfl | omega | (simp (disch := omega) only [w32_of]; omega)) (by omega) rfl ?_
          rw [a6pn]
          refine Ev.aload_n (q := 54) dX0_walkTo_53 rfl rfl ?_
          refine gR (q := 57) dX0_walkTo_54 gfX0_18 k66 r66_0 rfl rfl ?_
          refine Ev.iload_n (q := 58) dX0_walkTo_57 rfl rfl ?_
          refine Ev.aload_n (q := 59) dX0_walkTo_58 rfl rfl ?_
          refine gR (q := 62) dX0_walkTo_59 gfX0_83 nwK nwr4 rfl rfl ?_
          refine Ev.iload_n (q := 63) dX0_walkTo_62 rfl rfl ?_
          refine aI (q := 64) (k := pn) dX0_walkTo_63 nwK4 (by first | rfl | omega | (simp (disch := omega) only [w32_of]; omega)) (by omega) rfl ?_
          rw [a5pn, show g (72 + pn) = (((g (72 + pn)).toNat : Nat) : Int) by have := qppn.2.2.2.2.1.1; omega]
          refine Ev.iload_n (q := 65) dX0_walkTo_64 rfl rfl ?_
          refine cV3i (q := 68) (d' := d + 0) dX0_walkTo_65 mlX0_101 moX1_onFoot mvX1_onFoot k33 rfl rfl rfl (Nat.le_refl _) rfl rfl rfl (p_X1_onFoot g 33 pn (g (72 + pn)).toNat fn (g 1).toNat (by decide) (by omega) (by omega) (by have := qppn.2.2.2.2.1; omega) (by omega) (fun i hi => ⟨((hH.2.2.2 pn hppn).2 i (by omega)).1, ((hH.2.2.2 pn hppn).2 i (by omega)).2.1⟩)) (fun r7 m7 e7 => ?_)
          obtain ⟨rfl, e7⟩ := e7
          obtain rfl := e7.symm
          refine Ev.iadd (q := 69) dX0_walkTo_68 rfl ?_
          refine sI (q := 70) (k := pn) dX0_walkTo_69 nwK5 (by first | rfl | omega | (simp (disch := omega) only [w32_of]; omega)) (by omega) rfl ?_
          refine Ev.aload_n (q := 71) dX0_walkTo_70 rfl rfl ?_
          refine gR (q := 74) dX0_walkTo_71 gfX0_83 nwK nwr4 rfl rfl ?_
          refine Ev.iload_n (q := 75) dX0_walkTo_74 rfl rfl ?_
          refine Ev.iload_n (q := 76) dX0_walkTo_75 rfl rfl ?_
          refine sI (q := 77) (k := pn) dX0_walkTo_76 nwK4 (by first | rfl | omega | (simp (disch := omega) only [w32_of]; omega)) (by omega) rfl ?_
          refine Ev.iconst (q := 78) dX0_walkTo_77 ki_0 rfl ?_
          refine rI dX0_walkTo_78 rfl ?_
          have ew : whyW g pn fn = 0 := by rw [whyW_n hppn hffn, if_neg (fun z => z.elim (fun y => y (by assumption)) (by assumption))]
          rw [ew, if_pos rfl]
          refine ⟨rfl, ?_, ((Fr.rf _ _).up (sDe_t (by omega) (by omega))).up (sDe_t (by omega) (by omega))⟩
          exact NowR_5 (NowR_6 hR hL3.2 hP8.2 (by omega) _) (by rw [upg_ne _ _ (by omega)]; exact hL3.2) (by rw [upg_ne _ _ (by omega)]; exact hP8.2) (by omega) _
        · skip
          refine Ev.iconst (q := 45) dX0_walkTo_44 ki_2 rfl ?_
          refine rI dX0_walkTo_45 rfl ?_
          have ew : whyW g pn fn = 2 := by rw [whyW_n hppn hffn, if_pos (Or.inr (by omega))]
          rw [ew]
          exact ⟨rfl, by rw [if_neg (by decide)]; exact hR, Fr.rf _ _⟩
    · skip
      have hFF : ¬ (0 ≤ f ∧ f < g 1) := by split at h4 <;> omega
      refine Ev.iconst (q := 23) dX0_walkTo_22 ki_1 rfl ?_
      refine rI dX0_walkTo_23 rfl ?_
      rw [whyW_1 (by omega)]
      exact ⟨rfl, by rw [if_neg (by decide)]; exact hR, Fr.rf _ _⟩
