/-! ===== the reference: sums over the people of a lift ===== -/
/-- the lights of lift l -/
def litV (g : Nat → Int) (l : Nat) : Nat := (g (66 + l)).toNat
def bestN (g : Nat → Int) (p : Nat) : Int × Int := bestV g p (if g (88 + p) = -1 then 0 else litV g (g (88 + p)).toNat)
def sumN (g : Nat → Int) (l lit : Nat) : Nat → Int
  | 0 => 0
  | n + 1 => if g (88 + n) = l then w64 (sumN g l lit n + w64 ((bestV g n lit).1 * g (52 + n))) else sumN g l lit n
def sumV (g : Nat → Int) (l lit : Nat) : Int := sumN g l lit (g 3).toNat
def latN (g : Nat → Int) (l lit : Nat) : Nat → Int
  | 0 => 0
  | n + 1 => if g (88 + n) = l then (if latN g l lit n < (bestV g n lit).1 then (bestV g n lit).1 else latN g l lit n) else latN g l lit n
def latV (g : Nat → Int) (l lit : Nat) : Int := latN g l lit (g 3).toNat
/-- lights that lift l could have -/
def litOk (g : Nat → Int) (l lit : Nat) : Prop := lit < 2 ^ (g 1).toNat ∧ lit.testBit (g (60 + l)).toNat = false
theorem HI.litOk {g : Nat → Int} (h : HI g) {l : Nat} (hl : (l : Int) < g 2) : litOk g l (litV g l) := (h.lift hl).2.1.2
set_option maxRecDepth 4000 in
theorem p_X12_bestNow {Γ : Gm} {d : Nat} {m : Mem} (p : Nat) (hI : HI (m 212)) (hp : (p : Int) < m 212 3) : Ci Γ (d + 5) MX12_bestNow [rv 211, iv p] m (fun r m' => r = (bestN (m 212) p).1 ∧ m' 211 27 = (bestN (m 212) p).2 ∧ Fr sBe m m') := by
  refine Ci.of moX12_bestNow rfl rfl (fun hA hM => ?_)
  show Em Γ (d + 5) MX12_bestNow _ 0 [rv 211, iv p] [] m
  obtain ⟨⟨p1, p2⟩, ⟨p3, p4⟩, ⟨p5, p6⟩, ⟨p7, p8⟩, ⟨p9, p10⟩, pin⟩ := hI.pers hp
  have hP8 := hI.2.2.1
  have hL3 := hI.2.1
  refine Ev.aload_n (q := 1) dX12_bestNow_0 rfl rfl ?_
  refine Ev.iload_n (q := 2) dX12_bestNow_1 rfl rfl ?_
  refine Ev.aload_n (q := 3) dX12_bestNow_2 rfl rfl ?_
  refine gR (q := 6) dX12_bestNow_3 gfX12_13 k211 r211_1 rfl rfl ?_
  refine Ev.bipush (q := 8) dX12_bestNow_6 kb_88 rfl ?_
  refine Ev.iload_n (q := 9) dX12_bestNow_8 rfl rfl ?_
  refine Ev.iadd (q := 10) dX12_bestNow_9 rfl ?_
  refine aI (q := 11) (k := 88 + p) dX12_bestNow_10 k212 (by first | rfl | omega | (simp (disch := omega) only [w32_of]; omega)) (by omega) rfl ?_
  refine Ev.iconst (q := 12) dX12_bestNow_11 ki_m1 rfl ?_
  refine Ev.icmp_ne (tgt := 19) (q := 15) dX12_bestNow_12 (by decide) rfl (fun h1 => ?_) (fun h1 => ?_)
  · skip
    obtain ⟨p11, p12, p13⟩ := pin.resolve_left (by assumption)
    obtain ⟨l, hll⟩ : ∃ l : Nat, m 212 (88 + p) = l := ⟨(m 212 (88 + p)).toNat, by omega⟩
    have hlok := hI.litOk (l := l) (by omega)
    have hlift := hI.lift (l := l) (by omega)
    refine Ev.aload_n (q := 20) dX12_bestNow_19 rfl rfl ?_
    refine gR (q := 23) dX12_bestNow_20 gfX12_13 k211 r211_1 rfl rfl ?_
    refine Ev.bipush (q := 25) dX12_bestNow_23 kb_66 rfl ?_
    refine Ev.aload_n (q := 26) dX12_bestNow_25 rfl rfl ?_
    refine gR (q := 29) dX12_bestNow_26 gfX12_13 k211 r211_1 rfl rfl ?_
    refine Ev.bipush (q := 31) dX12_bestNow_29 kb_88 rfl ?_
    refine Ev.iload_n (q := 32) dX12_bestNow_31 rfl rfl ?_
    refine Ev.iadd (q := 33) dX12_bestNow_32 rfl ?_
    refine aI (q := 34) (k := 88 + p) dX12_bestNow_33 k212 (by first | rfl | omega | (simp (disch := omega) only [w32_of]; omega)) (by omega) rfl ?_
    rw [hll]
    refine Ev.iadd (q := 35) dX12_bestNow_34 rfl ?_
    refine aI (q := 36) (k := 66 + l) dX12_bestNow_35 k212 (by first | rfl | omega | (simp (disch := omega) only [w32_of]; omega)) (by omega) rfl ?_
    skip
    have e66 : m 212 (66 + l) = ((litV (m 212) l : Nat) : Int) := by unfold litV; have := hlift.2.1.1; omega
    rw [e66]
    refine cV2i (q := 39) (d' := d + 4) dX12_bestNow_36 mlX12_358 moX12_bestBy mvX12_bestBy k211 rfl rfl rfl (Nat.le_refl _) rfl rfl rfl (by first | exact p_X12_bestBy p 0 hI hp (Nat.two_pow_pos _) (fun z => absurd (by assumption) z) | exact p_X12_bestBy p (litV (m 212) l) hI hp hlok.1 (fun z => by rw [hll]; exact hlok.2)) (fun r2 m2 e2 => ?_)
    refine rI dX12_bestNow_39 rfl ?_
    unfold bestN
    first | (rw [if_pos (by assumption)]; assumption) | (rw [if_neg (by assumption), hll]; simp only [Int.toNat_natCast]; assumption)
  · skip
    refine Ev.iconst (q := 16) dX12_bestNow_15 ki_0 rfl ?_
    refine Ev.goto (q := 36) dX12_bestNow_16 (by decide) ?_
    skip
    refine cV2i (q := 39) (d' := d + 4) dX12_bestNow_36 mlX12_358 moX12_bestBy mvX12_bestBy k211 rfl rfl rfl (Nat.le_refl _) rfl rfl rfl (by first | exact p_X12_bestBy p 0 hI hp (Nat.two_pow_pos _) (fun z => absurd (by assumption) z) | exact p_X12_bestBy p (litV (m 212) l) hI hp hlok.1 (fun z => by rw [hll]; exact hlok.2)) (fun r3 m3 e3 => ?_)
    refine rI dX12_bestNow_39 rfl ?_
    unfold bestN
    first | (rw [if_pos (by assumption)]; assumption) | (rw [if_neg (by assumption), hll]; simp only [Int.toNat_natCast]; assumption)
