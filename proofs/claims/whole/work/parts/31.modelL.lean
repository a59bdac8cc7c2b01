/-! ===== the reference: to wait for a lift ===== -/
theorem rto_some {F : Nat} {sp : Int} {st : Nat → Nat → Int} {f : Nat} : ∀ (n : Nat) (t : Tr), tOk2 F t → t.2.2.1.testBit f = true → pop t.2.2.1 < n → ∃ t', rto sp st f n t = some t' ∧ t'.1 = f ∧ tOk2 F t' := by
  intro n
  induction n with
  | zero => intro t h1 h2 h3; omega
  | succ n ih =>
    intro t hok hb hp
    unfold rto
    rw [if_pos hb]
    cases hg : tgo sp st t with
    | none =>
      have := tgo_none hok hg
      rw [this, Nat.zero_testBit] at hb
      cases hb
    | some t' =>
      dsimp only
      have hok' := tgo_ok2 hok hg
      by_cases hf : t'.1 = f
      · rw [if_pos hf]
        exact ⟨t', rfl, hf, hok'⟩
      · rw [if_neg hf]
        obtain ⟨-, q1, q2⟩ := tgo_ok hok.1 hg
        refine ih t' hok' ?_ (by have := tgo_pop hok hg; omega)
        rw [q2, dif_bit, hb, Nat.testBit_two_pow]
        simp [hf]
theorem rto_none {sp : Int} {st : Nat → Nat → Int} {f : Nat} (n : Nat) {t : Tr} (h : t.2.2.1.testBit f = false) : rto sp st f n t = none := by
  cases n with
  | zero => rfl
  | succ n => unfold rto; rw [if_neg (by rw [h]; decide)]
theorem rto_came (sp : Int) (st : Nat → Nat → Int) (f n : Nat) (t : Tr) (c' : Int) : rto sp st f n t = rto sp st f n (t.1, t.2.1, t.2.2.1, t.2.2.2.1, c') := by
  cases n with
  | zero => rfl
  | succ n => rfl
/-- behind the wait: the lift is at p's floor -/
def waitT (g : Nat → Int) (p l : Nat) : Option Tr :=
  if (g (60 + l)).toNat = (g (72 + p)).toNat then some (liftT g l) else rto (g (22 + l)) (stopV g l) (g (72 + p)).toNat 13 (withLit (liftT g l) (litV g l ||| 2 ^ (g (72 + p)).toNat))
def waitV (g : Nat → Int) (p l : Nat) : Int := if g (72 + p) = g (28 + p) then g (80 + p) else match waitT g p l with
  | none => -1
  | some t => match rto (g (22 + l)) (stopV g l) (g (28 + p)).toNat 13 (t.1, (if t.2.1 < g (80 + p) then g (80 + p) else t.2.1), t.2.2.1 ||| 2 ^ (g (28 + p)).toNat, t.2.2.2.1, t.2.2.2.2) with
    | none => -1
    | some t' => t'.2.2.2.2
theorem or_ok {F : Nat} {h : Nat} {tt : Int} {s : Nat} {u : Bool} {c : Int} {f : Nat} {tt' : Int} {c' : Int} (hok : tOk2 F (h, tt, s, u, c)) (hf : f < F) (hne : f ≠ h) : tOk2 F (h, tt', s ||| 2 ^ f, u, c') := by
  obtain ⟨⟨h1, h2, h3⟩, h4⟩ := hok
  refine ⟨⟨h1, h2, Nat.or_lt_two_pow h3 (two_lt hf)⟩, ?_⟩
  dsimp only at h4 ⊢
  rw [Nat.testBit_or, h4, Nat.testBit_two_pow]
  simp [hne]
set_option maxRecDepth 4000 in
theorem l_waits {Γ : Gm} {d : Nat} {m0 m : Mem} (p l on hm F h : Nat) (tt : Int) (s : Nat) (u : Bool) (c : Int) (hI : HI (m0 212)) (hp : (p : Int) < m0 212 3) (hl : (l : Int) < m0 212 2) (hhm : m0 212 (28 + p) = hm) (hFF : m0 212 1 = F) (hne : hm ≠ h) (hok : tOk2 F (h, tt, s, u, c)) (g12 : m 212 = m0 212) (hF0 : Fr sT m0 m) (hT : TMc m l (h, tt, s, u, c)) : Em Γ (d + 5) MX12_waitsFor (fun r m' => r = (match rto (m0 212 (22 + l)) (stopV (m0 212) l) hm 13 (h, (if tt < m0 212 (80 + p) then m0 212 (80 + p) else tt), s ||| 2 ^ hm, u, c) with | none => -1 | some t' => t'.2.2.2.2) ∧ Fr sT m0 m') 86 [rv 211, iv p, iv l] [] m := by
  have hF9 := hI.1
  have hL3 := hI.2.1
  have hP8 := hI.2.2.1
  have hpp := hI.pers hp
  refine Ev.aload_n (q := 87) dX12_waitsFor_86 rfl rfl ?_
  refine gI (q := 90) dX12_waitsFor_87 gfX12_197 k211 rfl rfl ?_
  rw [hT.1.2.2.1]
  refine Ev.aload_n (q := 91) dX12_waitsFor_90 rfl rfl ?_
  refine gR (q := 94) dX12_waitsFor_91 gfX12_13 k211 r211_1 rfl rfl ?_
  refine Ev.bipush (q := 96) dX12_waitsFor_94 kb_80 rfl ?_
  refine Ev.iload_n (q := 97) dX12_waitsFor_96 rfl rfl ?_
  refine Ev.iadd (q := 98) dX12_waitsFor_97 rfl ?_
  refine aI (q := 99) (k := 80 + p) dX12_waitsFor_98 k212 (by first | rfl | omega | (simp (disch := omega) only [w32_of]; omega)) (by omega) rfl ?_
  rw [g12]
  refine Ev.icmp_ge (tgt := 115) (q := 102) dX12_waitsFor_99 (by decide) rfl (fun h1 => ?_) (fun h1 => ?_)
  · skip
    refine Ev.aload_n (q := 116) dX12_waitsFor_115 rfl rfl ?_
    refine Ev.dup (q := 117) dX12_waitsFor_116 (fun z => by cases z) rfl ?_
    refine gI (q := 120) dX12_waitsFor_117 gfX12_200 k211 rfl rfl ?_
    first | rw [hT.1.2.2.2.1] | rw [up_k _ _ (by decide), hT.1.2.2.2.1]
    refine Ev.iconst (q := 121) dX12_waitsFor_120 ki_1 rfl ?_
    refine Ev.aload_n (q := 122) dX12_waitsFor_121 rfl rfl ?_
    refine gR (q := 125) dX12_waitsFor_122 gfX12_13 k211 r211_1 rfl rfl ?_
    refine Ev.bipush (q := 127) dX12_waitsFor_125 kb_28 rfl ?_
    refine Ev.iload_n (q := 128) dX12_waitsFor_127 rfl rfl ?_
    refine Ev.iadd (q := 129) dX12_waitsFor_128 rfl ?_
    refine aI (q := 130) (k := 28 + p) dX12_waitsFor_129 k212 (by first | rfl | omega | (simp (disch := omega) only [w32_of]; omega)) (by omega) rfl ?_
    first | rw [g12, hhm] | rw [up_na _ _ (by decide), g12, hhm]
    refine Ev.ishl (q := 131) dX12_waitsFor_130 rfl ?_
    refine Ev.ior (q := 132) dX12_waitsFor_131 rfl ?_
    dsimp only
    rw [ishl_1 hm (by omega), ior_n (k := 12) (lt4096 hok.1.2.2 hok.1.1) (two_lt (by omega)) (by decide)]
    refine pI (q := 135) dX12_waitsFor_132 gfX12_200 k211 rfl rfl ?_
    skip
    refine Ev.aload_n (q := 136) dX12_waitsFor_135 rfl rfl ?_
    refine Ev.aload_n (q := 137) dX12_waitsFor_136 rfl rfl ?_
    refine gR (q := 140) dX12_waitsFor_137 gfX12_13 k211 r211_1 rfl rfl ?_
    refine Ev.bipush (q := 142) dX12_waitsFor_140 kb_28 rfl ?_
    refine Ev.iload_n (q := 143) dX12_waitsFor_142 rfl rfl ?_
    refine Ev.iadd (q := 144) dX12_waitsFor_143 rfl ?_
    refine aI (q := 145) (k := 28 + p) dX12_waitsFor_144 k212 (by first | rfl | omega | (simp (disch := omega) only [w32_of]; omega)) (by omega) rfl ?_
    first | rw [up_na _ _ (by decide), g12, hhm] | rw [up_na _ _ (by decide), up_na _ _ (by decide), g12, hhm]
    refine cV1i (q := 148) (d' := d + 4) dX12_waitsFor_145 mlX12_352 moX12_ridesTo mvX12_ridesTo k211 rfl rfl rfl (Nat.le_refl _) rfl rfl rfl (p_X12_ridesTo l F hm h tt (s ||| 2 ^ hm) u c (by rw [up_na _ _ (by decide), g12]; exact hFF) (by omega) (by rw [up_na _ _ (by decide), g12]; exact hI.law1) (by omega) (by unfold TMc TM; simp (disch := omega) only [up_k, up_eq]; refine ⟨⟨hT.1.1, hT.1.2.1, ?_, ?_, hT.1.2.2.2.2⟩, hT.2⟩ <;> first | trivial | exact hT.1.2.2.1) (or_ok hok (by omega) hne)) (fun r2 m2 e2 => ?_)
    obtain ⟨e2, -, hfr⟩ := e2
    rw [up_na _ _ (by decide), g12] at e2
    subst e2
    refine rI dX12_waitsFor_148 rfl ?_
    rw [if_neg (by dsimp only at *; omega)]
    exact ⟨by cases rto (m0 212 (22 + l)) (stopV (m0 212) l) hm 13 (h, tt, s ||| 2 ^ hm, u, c) <;> rfl, (hF0.up rfl).tr hfr⟩
  · skip
    refine Ev.aload_n (q := 103) dX12_waitsFor_102 rfl rfl ?_
    refine Ev.aload_n (q := 104) dX12_waitsFor_103 rfl rfl ?_
    refine gR (q := 107) dX12_waitsFor_104 gfX12_13 k211 r211_1 rfl rfl ?_
    refine Ev.bipush (q := 109) dX12_waitsFor_107 kb_80 rfl ?_
    refine Ev.iload_n (q := 110) dX12_waitsFor_109 rfl rfl ?_
    refine Ev.iadd (q := 111) dX12_waitsFor_110 rfl ?_
    refine aI (q := 112) (k := 80 + p) dX12_waitsFor_111 k212 (by first | rfl | omega | (simp (disch := omega) only [w32_of]; omega)) (by omega) rfl ?_
    rw [g12]
    refine pI (q := 115) dX12_waitsFor_112 gfX12_197 k211 rfl rfl ?_
    refine Ev.aload_n (q := 116) dX12_waitsFor_115 rfl rfl ?_
    refine Ev.dup (q := 117) dX12_waitsFor_116 (fun z => by cases z) rfl ?_
    refine gI (q := 120) dX12_waitsFor_117 gfX12_200 k211 rfl rfl ?_
    first | rw [hT.1.2.2.2.1] | rw [up_k _ _ (by decide), hT.1.2.2.2.1]
    refine Ev.iconst (q := 121) dX12_waitsFor_120 ki_1 rfl ?_
    refine Ev.aload_n (q := 122) dX12_waitsFor_121 rfl rfl ?_
    refine gR (q := 125) dX12_waitsFor_122 gfX12_13 k211 r211_1 rfl rfl ?_
    refine Ev.bipush (q := 127) dX12_waitsFor_125 kb_28 rfl ?_
    refine Ev.iload_n (q := 128) dX12_waitsFor_127 rfl rfl ?_
    refine Ev.iadd (q := 129) dX12_waitsFor_128 rfl ?_
    refine aI (q := 130) (k := 28 + p) dX12_waitsFor_129 k212 (by first | rfl | omega | (simp (disch := omega) only [w32_of]; omega)) (by omega) rfl ?_
    first | rw [g12, hhm] | rw [up_na _ _ (by decide), g12, hhm]
    refine Ev.ishl (q := 131) dX12_waitsFor_130 rfl ?_
    refine Ev.ior (q := 132) dX12_waitsFor_131 rfl ?_
    dsimp only
    rw [ishl_1 hm (by omega), ior_n (k := 12) (lt4096 hok.1.2.2 hok.1.1) (two_lt (by omega)) (by decide)]
    refine pI (q := 135) dX12_waitsFor_132 gfX12_200 k211 rfl rfl ?_
    skip
    refine Ev.aload_n (q := 136) dX12_waitsFor_135 rfl rfl ?_
    refine Ev.aload_n (q := 137) dX12_waitsFor_136 rfl rfl ?_
    refine gR (q := 140) dX12_waitsFor_137 gfX12_13 k211 r211_1 rfl rfl ?_
    refine Ev.bipush (q := 142) dX12_waitsFor_140 kb_28 rfl ?_
    refine Ev.iload_n (q := 143) dX12_waitsFor_142 rfl rfl ?_
    refine Ev.iadd (q := 144) dX12_waitsFor_143 rfl ?_
    refine aI (q := 145) (k := 28 + p) dX12_waitsFor_144 k212 (by first | rfl | omega | (simp (disch := omega) only [w32_of]; omega)) (by omega) rfl ?_
    first | rw [up_na _ _ (by decide), g12, hhm] | rw [up_na _ _ (by decide), up_na _ _ (by decide), g12, hhm]
    refine cV1i (q := 148) (d' := d + 4) dX12_waitsFor_145 mlX12_352 moX12_ridesTo mvX12_ridesTo k211 rfl rfl rfl (Nat.le_refl _) rfl rfl rfl (p_X12_ridesTo l F hm h (m0 212 (80 + p)) (s ||| 2 ^ hm) u c (by rw [up_na _ _ (by decide), up_na _ _ (by decide), g12]; exact hFF) (by omega) (by rw [up_na _ _ (by decide), up_na _ _ (by decide), g12]; exact hI.law1) (by omega) (by unfold TMc TM; simp (disch := omega) only [up_k, up_eq]; refine ⟨⟨hT.1.1, hT.1.2.1, ?_, ?_, hT.1.2.2.2.2⟩, hT.2⟩ <;> first | trivial | exact hT.1.2.2.1) (or_ok hok (by omega) hne)) (fun r3 m3 e3 => ?_)
    obtain ⟨e3, -, hfr⟩ := e3
    rw [up_na _ _ (by decide), up_na _ _ (by decide), g12] at e3
    subst e3
    refine rI dX12_waitsFor_148 rfl ?_
    rw [if_pos (by dsimp only at *; omega)]
    exact ⟨by cases rto (m0 212 (22 + l)) (stopV (m0 212) l) hm 13 (h, m0 212 (80 + p), s ||| 2 ^ hm, u, c) <;> rfl, ((hF0.up rfl).up rfl).tr hfr⟩
set_option maxRecDepth 4000 in
theorem p_X12_waitsFor {Γ : Gm} {d : Nat} {m : Mem} (p l : Nat) (hI : HI (m 212)) (hp : (p : Int) < m 212 3) (hl : (l : Int) < m 212 2) : Ci Γ (d + 5) MX12_waitsFor [rv 211, iv p, iv l] m (fun r m' => r = waitV (m 212) p l ∧ Fr sT m m') := by
  refine Ci.of moX12_waitsFor rfl rfl (fun hA hM => ?_)
  show Em Γ (d + 5) MX12_waitsFor _ 0 [rv 211, iv p, iv l] [] m
  obtain ⟨⟨p1, p2⟩, ⟨p3, p4⟩, ⟨p5, p6⟩, ⟨p7, p8⟩, ⟨p9, p10⟩, pin⟩ := hI.pers hp
  have hF9 := hI.1
  have hL3 := hI.2.1
  have hP8 := hI.2.2.1
  have hlift := hI.lift hl
  have hlok := hI.litOk hl
  obtain ⟨on, hon⟩ : ∃ on : Nat, m 212 (72 + p) = on := ⟨(m 212 (72 + p)).toNat, by omega⟩
  obtain ⟨hm, hhm⟩ : ∃ hm : Nat, m 212 (28 + p) = hm := ⟨(m 212 (28 + p)).toNat, by omega⟩
  obtain ⟨F, hFF⟩ : ∃ F : Nat, m 212 1 = F := ⟨(m 212 1).toNat, by omega⟩
  obtain ⟨own, e60⟩ : ∃ own : Nat, m 212 (60 + l) = own := ⟨(m 212 (60 + l)).toNat, by omega⟩
  have hFt : (m 212 1).toNat = F := by omega
  have e66 : m 212 (66 + l) = ((litV (m 212) l : Nat) : Int) := by unfold litV; have := hlift.2.1.1; omega
  have hlt9 := hlok.lt hI
  have elT : liftT (m 212) l = (own, m 212 (63 + l), litV (m 212) l, decide (m 212 (69 + l) = 1), 0) := by unfold liftT litV; rw [e60]; rfl
  refine Ev.aload_n (q := 1) dX12_waitsFor_0 rfl rfl ?_
  refine gR (q := 4) dX12_waitsFor_1 gfX12_13 k211 r211_1 rfl rfl ?_
  refine Ev.bipush (q := 6) dX12_waitsFor_4 kb_72 rfl ?_
  refine Ev.iload_n (q := 7) dX12_waitsFor_6 rfl rfl ?_
  refine Ev.iadd (q := 8) dX12_waitsFor_7 rfl ?_
  refine aI (q := 9) (k := 72 + p) dX12_waitsFor_8 k212 (by first | rfl | omega | (simp (disch := omega) only [w32_of]; omega)) (by omega) rfl ?_
  refine Ev.aload_n (q := 10) dX12_waitsFor_9 rfl rfl ?_
  refine gR (q := 13) dX12_waitsFor_10 gfX12_13 k211 r211_1 rfl rfl ?_
  refine Ev.bipush (q := 15) dX12_waitsFor_13 kb_28 rfl ?_
  refine Ev.iload_n (q := 16) dX12_waitsFor_15 rfl rfl ?_
  refine Ev.iadd (q := 17) dX12_waitsFor_16 rfl ?_
  refine aI (q := 18) (k := 28 + p) dX12_waitsFor_17 k212 (by first | rfl | omega | (simp (disch := omega) only [w32_of]; omega)) (by omega) rfl ?_
  skip
  refine Ev.icmp_ne (tgt := 31) (q := 21) dX12_waitsFor_18 (by decide) rfl (fun h1 => ?_) (fun h1 => ?_)
  · skip
    refine Ev.aload_n (q := 32) dX12_waitsFor_31 rfl rfl ?_
    refine Ev.iload_n (q := 33) dX12_waitsFor_32 rfl rfl ?_
    refine cV1v (q := 36) (d' := d + 4) dX12_waitsFor_33 mlX12_234 moX12_loads mvX12_loads k211 rfl rfl rfl (Nat.le_refl _) rfl rfl rfl (p_X12_loads l (by omega) hlift.1.1 hlift.2.1.1) (fun r2 m2 e2 => ?_)
    obtain ⟨hT, hfr⟩ := e2
    rw [elT] at hT
    generalize m2 = M2 at *
    have g2 : M2 212 = m 212 := hfr.row 212 (fun _ => rfl)
    have hok : tOk2 F (own, m 212 (63 + l), litV (m 212) l, decide (m 212 (69 + l) = 1), M2 211 22) := by
      have := HI.liftOk hI hl hlok.1 hlok.2 (tt := m 212 (63 + l)) (u := decide (m 212 (69 + l) = 1)) (c := M2 211 22)
      rw [e60, Int.toNat_natCast, hFt] at this
      exact this
    have hhne : ¬ hm = on := by omega
    refine Ev.aload_n (q := 37) dX12_waitsFor_36 rfl rfl ?_
    refine gI (q := 40) dX12_waitsFor_37 gfX12_194 k211 rfl rfl ?_
    refine Ev.aload_n (q := 41) dX12_waitsFor_40 rfl rfl ?_
    refine gR (q := 44) dX12_waitsFor_41 gfX12_13 k211 r211_1 rfl rfl ?_
    refine Ev.bipush (q := 46) dX12_waitsFor_44 kb_72 rfl ?_
    refine Ev.iload_n (q := 47) dX12_waitsFor_46 rfl rfl ?_
    refine Ev.iadd (q := 48) dX12_waitsFor_47 rfl ?_
    refine aI (q := 49) (k := 72 + p) dX12_waitsFor_48 k212 (by first | rfl | omega | (simp (disch := omega) only [w32_of]; omega)) (by omega) rfl ?_
    rw [g2, hT.2.1, hon]
    refine Ev.icmp_eq (tgt := 86) (q := 52) dX12_waitsFor_49 (by decide) rfl (fun h3 => ?_) (fun h3 => ?_)
    · skip
      have hoo : own = on := by dsimp only at *; omega
      subst hoo
      have hk := l_waits (Γ := Γ) (d := d) (m0 := m) p l own hm F own (m 212 (63 + l)) (litV (m 212) l) (decide (m 212 (69 + l) = 1)) (M2 211 22) hI hp hl hhm hFF (by omega) hok g2 hfr ⟨hT, rfl⟩
      have ev : waitV (m 212) p l = (match rto (m 212 (22 + l)) (stopV (m 212) l) hm 13 (own, (if m 212 (63 + l) < m 212 (80 + p) then m 212 (80 + p) else m 212 (63 + l)), litV (m 212) l ||| 2 ^ hm, decide (m 212 (69 + l) = 1), M2 211 22) with | none => -1 | some t' => t'.2.2.2.2) := by
        unfold waitV waitT
        rw [if_neg (by omega), hon, hhm, e60, if_pos rfl, elT]
        simp only [Int.toNat_natCast]
        rw [rto_came _ _ _ _ _ (M2 211 22)]
      rw [ev]
      exact hk
    · skip
      have hoo : ¬ own = on := by dsimp only at *; omega
      refine Ev.aload_n (q := 53) dX12_waitsFor_52 rfl rfl ?_
      refine Ev.dup (q := 54) dX12_waitsFor_53 (fun z => by cases z) rfl ?_
      refine gI (q := 57) dX12_waitsFor_54 gfX12_200 k211 rfl rfl ?_
      rw [hT.2.2.2.1]
      refine Ev.iconst (q := 58) dX12_waitsFor_57 ki_1 rfl ?_
      refine Ev.aload_n (q := 59) dX12_waitsFor_58 rfl rfl ?_
      refine gR (q := 62) dX12_waitsFor_59 gfX12_13 k211 r211_1 rfl rfl ?_
      refine Ev.bipush (q := 64) dX12_waitsFor_62 kb_72 rfl ?_
      refine Ev.iload_n (q := 65) dX12_waitsFor_64 rfl rfl ?_
      refine Ev.iadd (q := 66) dX12_waitsFor_65 rfl ?_
      refine aI (q := 67) (k := 72 + p) dX12_waitsFor_66 k212 (by first | rfl | omega | (simp (disch := omega) only [w32_of]; omega)) (by omega) rfl ?_
      rw [g2, hon]
      refine Ev.ishl (q := 68) dX12_waitsFor_67 rfl ?_
      refine Ev.ior (q := 69) dX12_waitsFor_68 rfl ?_
      dsimp only
      rw [ishl_1 on (by omega), ior_n (k := 12) hlt9 (two_lt (by omega)) (by decide)]
      refine pI (q := 72) dX12_waitsFor_69 gfX12_200 k211 rfl rfl ?_
      refine Ev.aload_n (q := 73) dX12_waitsFor_72 rfl rfl ?_
      refine Ev.aload_n (q := 74) dX12_waitsFor_73 rfl rfl ?_
      refine gR (q := 77) dX12_waitsFor_74 gfX12_13 k211 r211_1 rfl rfl ?_
      refine Ev.bipush (q := 79) dX12_waitsFor_77 kb_72 rfl ?_
      refine Ev.iload_n (q := 80) dX12_waitsFor_79 rfl rfl ?_
      refine Ev.iadd (q := 81) dX12_waitsFor_80 rfl ?_
      refine aI (q := 82) (k := 72 + p) dX12_waitsFor_81 k212 (by first | rfl | omega | (simp (disch := omega) only [w32_of]; omega)) (by omega) rfl ?_
      rw [up_na _ _ (by decide), g2, hon]
      refine cV1i (q := 85) (d' := d + 4) dX12_waitsFor_82 mlX12_352 moX12_ridesTo mvX12_ridesTo k211 rfl rfl rfl (Nat.le_refl _) rfl rfl rfl (p_X12_ridesTo l F on own (m 212 (63 + l)) (litV (m 212) l ||| 2 ^ on) (decide (m 212 (69 + l) = 1)) (M2 211 22) (by rw [up_na _ _ (by decide), g2]; exact hFF) (by omega) (by rw [up_na _ _ (by decide), g2]; exact hI.law1) (by omega) (by unfold TMc TM; simp (disch := omega) only [up_k, up_eq]; refine ⟨⟨hT.1, hT.2.1, hT.2.2.1, ?_, hT.2.2.2.2⟩, ?_⟩ <;> first | trivial | rfl) (or_ok hok (by omega) (by omega))) (fun r4 m4 e4 => ?_)
      obtain ⟨-, eT, hfr2⟩ := e4
      rw [up_na _ _ (by decide), g2] at eT
      have hok2 : tOk2 F (own, m 212 (63 + l), litV (m 212) l ||| 2 ^ on, decide (m 212 (69 + l) = 1), M2 211 22) := or_ok hok (by omega) (by omega)
      obtain ⟨t', ht', ht1, hok3⟩ := rto_some (sp := m 212 (22 + l)) (st := stopV (m 212) l) (f := on) 13 _ hok2 (by rw [Nat.testBit_or, Nat.testBit_two_pow]; simp) (by have := pop_le (litV (m 212) l ||| 2 ^ on); dsimp only; omega)
      have hT3 := eT t' ht'
      have hF3 : Fr sT m m4 := (hfr.up rfl).tr hfr2
      generalize m4 = M3 at *
      have g3 : M3 212 = m 212 := hF3.row 212 (fun _ => rfl)
      refine Ev.pop (q := 86) dX12_waitsFor_85 (fun z => by cases z) rfl ?_
      obtain ⟨h9, tt9, s9, u9, c9⟩ := t'
      have hh9 : h9 = on := ht1
      subst hh9
      have hk := l_waits (Γ := Γ) (d := d) (m0 := m) p l h9 hm F h9 tt9 s9 u9 c9 hI hp hl hhm hFF (by omega) hok3 g3 hF3 hT3
      have ev : waitV (m 212) p l = (match rto (m 212 (22 + l)) (stopV (m 212) l) hm 13 (h9, (if tt9 < m 212 (80 + p) then m 212 (80 + p) else tt9), s9 ||| 2 ^ hm, u9, c9) with | none => -1 | some t' => t'.2.2.2.2) := by
        unfold waitV waitT
        rw [if_neg (by omega), hon, hhm, e60]
        simp only [Int.toNat_natCast]
        rw [if_neg (by omega), elT]
        rw [rto_came _ _ _ _ (withLit _ _) (M2 211 22)]
        unfold withLit
        dsimp only
        rw [ht']
      rw [ev]
      exact hk
  · skip
    refine Ev.aload_n (q := 22) dX12_waitsFor_21 rfl rfl ?_
    refine gR (q := 25) dX12_waitsFor_22 gfX12_13 k211 r211_1 rfl rfl ?_
    refine Ev.bipush (q := 27) dX12_waitsFor_25 kb_80 rfl ?_
    refine Ev.iload_n (q := 28) dX12_waitsFor_27 rfl rfl ?_
    refine Ev.iadd (q := 29) dX12_waitsFor_28 rfl ?_
    refine aI (q := 30) (k := 80 + p) dX12_waitsFor_29 k212 (by first | rfl | omega | (simp (disch := omega) only [w32_of]; omega)) (by omega) rfl ?_
    refine rI dX12_waitsFor_30 rfl ?_
    exact ⟨by unfold waitV; rw [if_pos (by assumption)], Fr.rf _ _⟩
