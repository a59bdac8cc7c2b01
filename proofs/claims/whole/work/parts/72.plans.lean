/-! ===== the class: plans ===== -/
def sPl (a _k : Nat) : Bool := decide (72 ≤ a ∧ a ≤ 73)
theorem sPl_f {a k : Nat} (h : ¬ (72 ≤ a ∧ a ≤ 73)) : sPl a k = false := decide_eq_false h
theorem Fr.toPl {m m' : Mem} (h : Fr (sA 73) m m') : Fr sPl m m' := h.mono (fun a k q => sA_f (fun z => by rw [z] at q; cases q))
theorem HouR.pl {g : Row} {m m' : Mem} (h : HouR g m 33) (f : Fr sPl m m') : HouR g m' 33 := h.keep (fun a h1 h2 => f.row a (fun _ => sPl_f (by omega)))
theorem NowR.pl {g : Row} {m m' : Mem} (h : NowR g m 44) (f : Fr sPl m m') : NowR g m' 44 := h.keep (fun a h1 h2 => f.row a (fun _ => sPl_f (by omega)))
theorem w64_ad (a b : Int) : w64 (w64 a + w64 b) = w64 (a + b) := by
  unfold w64
  rw [Int64.ofInt_add, Int64.ofInt_toInt, Int64.ofInt_toInt, ← Int64.ofInt_add]
theorem w64_adr (a b : Int) : w64 (a + w64 b) = w64 (a + b) := by
  unfold w64
  rw [Int64.ofInt_add, Int64.ofInt_toInt, ← Int64.ofInt_add]
theorem setN_bit (q : Nat → Bool) (n p : Nat) : (setN q n).testBit p = (decide (p < n) && q p) := by
  induction n with
  | zero => rw [show setN q 0 = 0 from rfl, Nat.zero_testBit]; simp
  | succ n ih =>
    unfold setN
    split
    · rename_i h
      rw [Nat.testBit_or, ih, Nat.testBit_two_pow]
      by_cases e : n = p
      · subst e; simp [h]
      · have : decide (p < n + 1) = decide (p < n) := by congr 1; apply propext; omega
        rw [this]; simp [e]
    · rename_i h
      rw [ih]
      by_cases e : n = p
      · subst e; simp [h]
      · have : decide (p < n + 1) = decide (p < n) := by congr 1; apply propext; omega
        rw [this]
def wrN (g : Row) (l k f : Nat) : Nat → Int
  | 0 => 0
  | n + 1 => if parted g l k n = true ∧ g (28 + n) = f then wrN g l k f n + g (52 + n) else wrN g l k f n
theorem wrN_bd {g : Row} (hI : HI g) (l k f : Nat) : ∀ n : Nat, (n : Int) ≤ g 3 → 0 ≤ wrN g l k f n ∧ wrN g l k f n ≤ 99 * n := by
  intro n
  induction n with
  | zero => intro _; exact ⟨Int.le_refl _, Int.le_refl _⟩
  | succ n ih =>
    intro hn
    have h1 := ih (by omega)
    have h2 := (hI.pers (p := n) (by omega)).2.2.2.1
    unfold wrN
    split <;> omega
theorem tkW_eq (g : Row) (l k f : Nat) (c s0 : Int) (hs : w64 s0 = s0) : ∀ n : Nat, tkW g l k f c s0 n = w64 (s0 + c * wrN g l k f n) := by
  intro n
  induction n with
  | zero => show s0 = w64 (s0 + c * 0); rw [Int.mul_zero, Int.add_zero, hs]
  | succ n ih =>
    unfold tkW wrN
    split
    · rw [ih, w64_ad]
      congr 1
      rw [Int.mul_add]
      omega
    · exact ih
theorem tkW_w (g : Row) (l k f : Nat) (c s0 : Int) (hs : w64 s0 = s0) (n : Nat) : w64 (tkW g l k f c s0 n) = tkW g l k f c s0 n := by rw [tkW_eq g l k f c s0 hs, w64_w64]
theorem tkL_none {g : Row} {l k one n : Nat} {t : Tr} {s : Int} (h : tgo (g (22 + one)) (stopV g one) t = none) : tkL g l k one n t s = s := by
  cases n with
  | zero => rfl
  | succ n => unfold tkL; rw [h]
theorem tkL_some {g : Row} {l k one n : Nat} {t t' : Tr} {s : Int} (h : tgo (g (22 + one)) (stopV g one) t = some t') : tkL g l k one (n + 1) t s = tkL g l k one n t' (tkW g l k t'.1 t'.2.2.2.2 s (g 3).toNat) := by conv => lhs; unfold tkL; rw [h]
theorem tkL_13 {g : Row} {l k one F : Nat} : ∀ (n : Nat) (t : Tr) (s : Int), tOk2 F t → pop t.2.2.1 ≤ n → tkL g l k one n t s = tkL g l k one (n + 1) t s := by
  intro n
  induction n with
  | zero =>
    intro t s hok hp
    cases hg : tgo (g (22 + one)) (stopV g one) t with
    | none => rw [tkL_none hg, tkL_none hg]
    | some t' => have := tgo_pop hok hg; omega
  | succ n ih =>
    intro t s hok hp
    cases hg : tgo (g (22 + one)) (stopV g one) t with
    | none => rw [tkL_none hg, tkL_none hg]
    | some t' => have := tgo_pop hok hg; rw [tkL_some hg, tkL_some hg, ih t' _ (tgo_ok2 hok hg) (by omega)]
theorem CT.up3 {m : Mem} {c l h s : Nat} {tt cm : Int} {u : Bool} (hT : CT m c l (h, tt, s, u, cm)) (x : Int) : CT (up m c 3 x) c l (h, x, s, u, cm) := by
  obtain ⟨q1, q2, q3, q4, q5⟩ := hT
  refine ⟨?_, ?_, ?_, ?_, ?_⟩
  · rw [up_k _ _ (by decide)]; exact q1
  · rw [up_k _ _ (by decide)]; exact q2
  · rw [up_eq]
  · rw [up_k _ _ (by decide)]; exact q4
  · rw [up_k _ _ (by decide)]; exact q5
theorem CT.up4 {m : Mem} {c l h s : Nat} {tt cm : Int} {u : Bool} (hT : CT m c l (h, tt, s, u, cm)) (x : Nat) : CT (up m c 4 (x : Int)) c l (h, tt, x, u, cm) := by
  obtain ⟨q1, q2, q3, q4, q5⟩ := hT
  refine ⟨?_, ?_, ?_, ?_, ?_⟩
  · rw [up_k _ _ (by decide)]; exact q1
  · rw [up_k _ _ (by decide)]; exact q2
  · rw [up_k _ _ (by decide)]; exact q3
  · rw [up_eq]
  · rw [up_k _ _ (by decide)]; exact q5
theorem takV_z (g : Row) (one l k : Nat) : takV g one l k 0 = 0 := by
  unfold takV
  rw [tkL_none]
  exact tgo_zero rfl
set_option maxRecDepth 4000 in
theorem l_waitFor {Γ : Gm} {d : Nat} {m0 M : Mem} (g : Row) (hI : HI g) (hH : HouR g m0 33) (hN : NowR g m0 44) (p l on hm h : Nat) (tt : Int) (s : Nat) (u : Bool) (c : Int) (hp : (p : Int) < g 3) (hl : (l : Int) < g 2) (hhm : g (28 + p) = hm) (hne : hm ≠ h) (hok : tOk2 (g 1).toNat (h, tt, s, u, c)) (hF : Fr sPl m0 M) (hT : CTc M 73 l (h, tt, s, u, c)) : Em Γ (d + 4) MX5_waitFor (fun r m' => r = (match rto (g (22 + l)) (stopV g l) hm 13 (h, (if tt < g (80 + p) then g (80 + p) else tt), s ||| 2 ^ hm, u, c) with | none => -1 | some t' => t'.2.2.2.2) ∧ Fr sPl m0 m') 84 [rv 72, iv p, iv l, iv on, iv hm] [] M := by
  have hF12 := hI.1
  have hP8 := hI.2.2.1
  have hL3 := hI.2.1
  have hpp := hI.pers hp
  have e50 : M 50 p = g (80 + p) := ((hN.pl hF).2 p hp).2.1
  refine Ev.aload_n (q := 85) dX5_waitFor_84 rfl rfl ?_
  refine gR (q := 88) dX5_waitFor_85 gfX5_32 k72 r72_2 rfl rfl ?_
  refine Ev.aload_n (q := 89) dX5_waitFor_88 rfl rfl ?_
  refine gR (q := 92) dX5_waitFor_89 gfX5_32 k72 r72_2 rfl rfl ?_
  refine gI (q := 95) dX5_waitFor_92 gfX5_64 k73 rfl rfl ?_
  rw [hT.1.2.2.1]
  refine Ev.aload_n (q := 96) dX5_waitFor_95 rfl rfl ?_
  refine gR (q := 99) dX5_waitFor_96 gfX5_23 k72 r72_1 rfl rfl ?_
  refine gR (q := 102) dX5_waitFor_99 gfX5_47 k44 r44_5 rfl rfl ?_
  refine Ev.iload_n (q := 103) dX5_waitFor_102 rfl rfl ?_
  refine aI (q := 104) (k := p) dX5_waitFor_103 k50 (by first | rfl | omega | (simp (disch := omega) only [w32_of]; omega)) (by omega) rfl ?_
  rw [e50]
  refine cS2i (q := 107) (d' := d + 3) dX5_waitFor_104 mlX5_67 moJ9_max_7cf53 msJ9_max_7cf53 rfl rfl (Nat.le_refl _) rfl rfl rfl (p_J9_max_7cf53 _ _) (fun r1 m1 e1 => ?_)
  obtain ⟨rfl, e1⟩ := e1
  obtain rfl := e1.symm
  refine pI (q := 110) dX5_waitFor_107 gfX5_64 k73 rfl rfl ?_
  refine Ev.aload_n (q := 111) dX5_waitFor_110 rfl rfl ?_
  refine gR (q := 114) dX5_waitFor_111 gfX5_32 k72 r72_2 rfl rfl ?_
  refine Ev.dup (q := 115) dX5_waitFor_114 (fun z => by cases z) rfl ?_
  refine gI (q := 118) dX5_waitFor_115 gfX5_57 k73 rfl rfl ?_
  rw [up_k _ _ (by decide), hT.1.2.2.2.1]
  refine Ev.iconst (q := 119) dX5_waitFor_118 ki_1 rfl ?_
  refine Ev.iload (q := 121) dX5_waitFor_119 rfl rfl ?_
  refine Ev.ishl (q := 122) dX5_waitFor_121 rfl ?_
  refine Ev.ior (q := 123) dX5_waitFor_122 rfl ?_
  dsimp only
  rw [ishl_1 hm (by omega), ior_n (k := 12) (lt4096 hok.1.2.2 hok.1.1) (two_lt (by omega)) (by decide)]
  refine pI (q := 126) dX5_waitFor_123 gfX5_57 k73 rfl rfl ?_
  refine Ev.aload_n (q := 127) dX5_waitFor_126 rfl rfl ?_
  refine gR (q := 130) dX5_waitFor_127 gfX5_32 k72 r72_2 rfl rfl ?_
  refine Ev.iload (q := 132) dX5_waitFor_130 rfl rfl ?_
  refine cV1i (q := 135) (d' := d + 3) dX5_waitFor_132 mlX5_60 moX10_comesTo mvX10_comesTo k73 rfl rfl rfl (Nat.le_refl _) rfl rfl rfl (p_X10_comesTo g 73 l hm h (if tt < g (80 + p) then g (80 + p) else tt) (s ||| 2 ^ hm) u c (by decide) hI hl (hH.pl ((hF.up rfl).up rfl)) ((hT.1.up3 _).up4 _) (or_ok hok (by omega) hne)) (fun r2 m2 e2 => ?_)
  obtain ⟨e2, -, hfr⟩ := e2
  subst e2
  refine rI dX5_waitFor_135 rfl ?_
  exact ⟨by cases rto (g (22 + l)) (stopV g l) hm 13 (h, (if tt < g (80 + p) then g (80 + p) else tt), s ||| 2 ^ hm, u, c) <;> rfl, ((hF.up rfl).up rfl).tr hfr.toPl⟩
set_option maxRecDepth 4000 in
theorem p_X5_waitFor {Γ : Gm} {d : Nat} {m : Mem} (g : Row) (p l : Nat) (hI : HI g) (hp : (p : Int) < g 3) (hl : (l : Int) < g 2) (hH : HouR g m 33) (hN : NowR g m 44) : Ci Γ (d + 4) MX5_waitFor [rv 72, iv p, iv l] m (fun r m' => r = waitV g p l ∧ Fr sPl m m') := by
  refine Ci.of moX5_waitFor rfl rfl (fun hA hM => ?_)
  show Em Γ (d + 4) MX5_waitFor _ 0 [rv 72, iv p, iv l, uv, uv] [] m
  have hF12 := hI.1
  have hP8 := hI.2.2.1
  have hL3 := hI.2.1
  obtain ⟨⟨p1, p2⟩, ⟨p3, p4⟩, ⟨p5, p6⟩, ⟨p7, p8⟩, ⟨p9, p10⟩, pin⟩ := hI.pers hp
  have hlift := hI.lift hl
  have hlok := hI.litOk hl
  obtain ⟨on, hon⟩ : ∃ on : Nat, g (72 + p) = on := ⟨(g (72 + p)).toNat, by omega⟩
  obtain ⟨hm, hhm⟩ : ∃ hm : Nat, g (28 + p) = hm := ⟨(g (28 + p)).toNat, by omega⟩
  obtain ⟨own, e60⟩ : ∃ own : Nat, g (60 + l) = own := ⟨(g (60 + l)).toNat, by omega⟩
  have hlt9 := hlok.lt hI
  have e49 : m 49 p = (on : Int) := by rw [(hN.2 p hp).1]; exact hon
  have e36 : m 36 p = (hm : Int) := by rw [(hH.ho hp).1]; exact hhm
  have elT : liftT g l = (own, g (63 + l), litV g l, decide (g (69 + l) = 1), 0) := by unfold liftT litV; rw [e60]; rfl
  refine Ev.aload_n (q := 1) dX5_waitFor_0 rfl rfl ?_
  refine gR (q := 4) dX5_waitFor_1 gfX5_23 k72 r72_1 rfl rfl ?_
  refine gR (q := 7) dX5_waitFor_4 gfX5_36 k44 r44_4 rfl rfl ?_
  refine Ev.iload_n (q := 8) dX5_waitFor_7 rfl rfl ?_
  refine aI (q := 9) (k := p) dX5_waitFor_8 k49 (by first | rfl | omega | (simp (disch := omega) only [w32_of]; omega)) (by omega) rfl ?_
  rw [e49]
  refine istore_n_3 (q := 10) dX5_waitFor_9 rfl rfl rfl ?_
  refine Ev.aload_n (q := 11) dX5_waitFor_10 rfl rfl ?_
  refine gR (q := 14) dX5_waitFor_11 gfX5_19 k72 r72_0 rfl rfl ?_
  refine gR (q := 17) dX5_waitFor_14 gfX5_42 k33 r33_6 rfl rfl ?_
  refine Ev.iload_n (q := 18) dX5_waitFor_17 rfl rfl ?_
  refine aI (q := 19) (k := p) dX5_waitFor_18 k36 (by first | rfl | omega | (simp (disch := omega) only [w32_of]; omega)) (by omega) rfl ?_
  rw [e36]
  refine istore_4 (q := 21) dX5_waitFor_19 rfl rfl rfl ?_
  refine Ev.iload_n (q := 22) dX5_waitFor_21 rfl rfl ?_
  refine Ev.iload (q := 24) dX5_waitFor_22 rfl rfl ?_
  refine Ev.icmp_ne (tgt := 37) (q := 27) dX5_waitFor_24 (by decide) rfl (fun h1 => ?_) (fun h1 => ?_)
  · skip
    refine Ev.aload_n (q := 38) dX5_waitFor_37 rfl rfl ?_
    refine gR (q := 41) dX5_waitFor_38 gfX5_32 k72 r72_2 rfl rfl ?_
    refine Ev.aload_n (q := 42) dX5_waitFor_41 rfl rfl ?_
    refine gR (q := 45) dX5_waitFor_42 gfX5_23 k72 r72_1 rfl rfl ?_
    refine Ev.iload_n (q := 46) dX5_waitFor_45 rfl rfl ?_
    refine cV2v (q := 49) (d' := d + 3) dX5_waitFor_46 mlX5_50 moX10_begin mvX10_begin k73 rfl rfl rfl (Nat.le_refl _) rfl rfl rfl (p_X10_begin g 73 44 l (by decide) (by decide) hI hl hN) (fun r2 m2 e2 => ?_)
    obtain ⟨M1, rfl⟩ : ∃ M1, M1 = m2 := ⟨_, rfl⟩
    obtain ⟨hT1, hF1⟩ := e2
    rw [e60, Int.toNat_natCast] at hT1
    have hT1 : CTc M1 73 l (own, g (63 + l), litV g l, decide (g (69 + l) = 1), g (63 + l)) := hT1
    have hok : tOk2 (g 1).toNat (own, g (63 + l), litV g l, decide (g (69 + l) = 1), g (63 + l)) := by
      have := HI.liftOk hI hl hlok.1 hlok.2 (tt := g (63 + l)) (u := decide (g (69 + l) = 1)) (c := g (63 + l))
      rw [e60, Int.toNat_natCast] at this
      exact this
    have hhne : ¬ hm = on := by omega
    refine Ev.aload_n (q := 50) dX5_waitFor_49 rfl rfl ?_
    refine gR (q := 53) dX5_waitFor_50 gfX5_32 k72 r72_2 rfl rfl ?_
    refine gI (q := 56) dX5_waitFor_53 gfX5_54 k73 rfl rfl ?_
    rw [hT1.1.2.1]
    refine Ev.iload_n (q := 57) dX5_waitFor_56 rfl rfl ?_
    refine Ev.icmp_eq (tgt := 84) (q := 60) dX5_waitFor_57 (by decide) rfl (fun h3 => ?_) (fun h3 => ?_)
    · skip
      have hoo : own = on := by dsimp only at *; omega
      subst hoo
      have ev : waitV g p l = (match rto (g (22 + l)) (stopV g l) hm 13 (own, (if g (63 + l) < g (80 + p) then g (80 + p) else g (63 + l)), litV g l ||| 2 ^ hm, decide (g (69 + l) = 1), g (63 + l)) with | none => -1 | some t' => t'.2.2.2.2) := by
        unfold waitV waitT
        rw [if_neg (by omega), hon, hhm, e60]
        simp only [Int.toNat_natCast]
        rw [if_pos trivial, elT]
        rfl
      rw [ev]
      exact l_waitFor (m0 := m) g hI hH hN p l own hm own _ _ _ _ hp hl hhm (by omega) hok hF1.toPl hT1
    · skip
      have hoo : ¬ own = on := by dsimp only at *; omega
      refine Ev.aload_n (q := 61) dX5_waitFor_60 rfl rfl ?_
      refine gR (q := 64) dX5_waitFor_61 gfX5_32 k72 r72_2 rfl rfl ?_
      refine Ev.dup (q := 65) dX5_waitFor_64 (fun z => by cases z) rfl ?_
      refine gI (q := 68) dX5_waitFor_65 gfX5_57 k73 rfl rfl ?_
      rw [hT1.1.2.2.2.1]
      refine Ev.iconst (q := 69) dX5_waitFor_68 ki_1 rfl ?_
      refine Ev.iload_n (q := 70) dX5_waitFor_69 rfl rfl ?_
      refine Ev.ishl (q := 71) dX5_waitFor_70 rfl ?_
      refine Ev.ior (q := 72) dX5_waitFor_71 rfl ?_
      dsimp only
      rw [ishl_1 on (by omega), ior_n (k := 12) hlt9 (two_lt (by omega)) (by decide)]
      refine pI (q := 75) dX5_waitFor_72 gfX5_57 k73 rfl rfl ?_
      refine Ev.aload_n (q := 76) dX5_waitFor_75 rfl rfl ?_
      refine gR (q := 79) dX5_waitFor_76 gfX5_32 k72 r72_2 rfl rfl ?_
      refine Ev.iload_n (q := 80) dX5_waitFor_79 rfl rfl ?_
      refine cV1i (q := 83) (d' := d + 3) dX5_waitFor_80 mlX5_60 moX10_comesTo mvX10_comesTo k73 rfl rfl rfl (Nat.le_refl _) rfl rfl rfl (p_X10_comesTo g 73 l on own (g (63 + l)) (litV g l ||| 2 ^ on) (decide (g (69 + l) = 1)) (g (63 + l)) (by decide) hI hl (hH.pl (hF1.toPl.up rfl)) (hT1.1.up4 _) (or_ok hok (by omega) (by omega))) (fun r4 m4 e4 => ?_)
      obtain ⟨-, eT, hfr2⟩ := e4
      have hok2 : tOk2 (g 1).toNat (own, g (63 + l), litV g l ||| 2 ^ on, decide (g (69 + l) = 1), g (63 + l)) := or_ok hok (by omega) (by omega)
      obtain ⟨t', ht', ht1, hok3⟩ := rto_some (sp := g (22 + l)) (st := stopV g l) (f := on) 13 _ hok2 (by rw [Nat.testBit_or, Nat.testBit_two_pow]; simp) (by have := pop_le (litV g l ||| 2 ^ on); dsimp only; omega)
      have hT3 := eT t' ht'
      have hF3 : Fr sPl m m4 := (hF1.toPl.up rfl).tr hfr2.toPl
      obtain ⟨M3, rfl⟩ : ∃ M3, M3 = m4 := ⟨_, rfl⟩
      obtain ⟨h9, tt9, s9, u9, c9⟩ := t'
      have hh9 : h9 = on := ht1
      subst hh9
      refine Ev.pop (q := 84) dX5_waitFor_83 (fun z => by cases z) rfl ?_
      have ev : waitV g p l = (match rto (g (22 + l)) (stopV g l) hm 13 (h9, (if tt9 < g (80 + p) then g (80 + p) else tt9), s9 ||| 2 ^ hm, u9, c9) with | none => -1 | some t' => t'.2.2.2.2) := by
        unfold waitV waitT
        rw [if_neg (by omega), hon, hhm, e60]
        simp only [Int.toNat_natCast]
        rw [if_neg (by omega), elT]
        rw [rto_came _ _ _ _ (withLit _ _) (g (63 + l))]
        unfold withLit
        dsimp only
        rw [ht']
        rfl
      rw [ev]
      exact l_waitFor (m0 := m) g hI hH hN p l h9 hm h9 tt9 s9 u9 c9 hp hl hhm (by omega) hok3 hF3 hT3
  · skip
    refine Ev.aload_n (q := 28) dX5_waitFor_27 rfl rfl ?_
    refine gR (q := 31) dX5_waitFor_28 gfX5_23 k72 r72_1 rfl rfl ?_
    refine gR (q := 34) dX5_waitFor_31 gfX5_47 k44 r44_5 rfl rfl ?_
    refine Ev.iload_n (q := 35) dX5_waitFor_34 rfl rfl ?_
    refine aI (q := 36) (k := p) dX5_waitFor_35 k50 (by first | rfl | omega | (simp (disch := omega) only [w32_of]; omega)) (by omega) rfl ?_
    refine rI dX5_waitFor_36 rfl ?_
    exact ⟨by rw [(hN.2 p hp).2.1]; unfold waitV; rw [if_pos (by omega)], Fr.rf _ _⟩
set_option maxRecDepth 4000 in
theorem l_crowdOf {Γ : Gm} {d : Nat} {m : Mem} (g : Row) (hI : HI g) (hH : HouR g m 33) (hN : NowR g m 44) (l k : Nat) : ∀ (n p : Nat) (v6 : Vl), p + n = (g 3).toNat → Em Γ (d + 0) MX5_crowdOf (fun r m' => r = (setN (parted g l k) (g 3).toNat : Int) ∧ m' = m) 16 [rv 72, iv l, iv k, iv (g (60 + l)), iv (setN (parted g l k) p : Nat), iv p, v6] [] m := by
  have hF12 := hI.1
  have hP8 := hI.2.2.1
  have hL3 := hI.2.1
  have e33 : m 33 3 = g 3 := hH.n0.2.2.2
  intro n
  induction n with
  | zero =>
    intro p v6 hp
    refine Ev.iload (q := 18) dX5_crowdOf_16 rfl rfl ?_
    refine Ev.aload_n (q := 19) dX5_crowdOf_18 rfl rfl ?_
    refine gR (q := 22) dX5_crowdOf_19 gfX5_19 k72 r72_0 rfl rfl ?_
    refine gI (q := 25) dX5_crowdOf_22 gfX5_86 k33 rfl rfl ?_
    rw [e33]
    refine Ev.icmp_ge (tgt := 125) (q := 28) dX5_crowdOf_25 (by decide) rfl (fun h1 => ?_) (fun h1 => ?_)
    · skip
      refine Ev.iload (q := 127) dX5_crowdOf_125 rfl rfl ?_
      refine rI dX5_crowdOf_127 rfl ?_
      obtain rfl : p = (g 3).toNat := by omega
      exact ⟨rfl, rfl⟩
    · skip
      omega
  | succ n ih =>
    intro p v6 hp
    have h12 := setN_12 (parted g l k) (show p ≤ 8 by omega)
    have e51 : m 51 p = g (88 + p) := (hN.2 p (by omega)).2.2
    have e49 : m 49 p = g (72 + p) := (hN.2 p (by omega)).1
    have e36 : m 36 p = g (28 + p) := (hH.ho (by omega)).1
    refine Ev.iload (q := 18) dX5_crowdOf_16 rfl rfl ?_
    refine Ev.aload_n (q := 19) dX5_crowdOf_18 rfl rfl ?_
    refine gR (q := 22) dX5_crowdOf_19 gfX5_19 k72 r72_0 rfl rfl ?_
    refine gI (q := 25) dX5_crowdOf_22 gfX5_86 k33 rfl rfl ?_
    rw [e33]
    refine Ev.icmp_ge (tgt := 125) (q := 28) dX5_crowdOf_25 (by decide) rfl (fun h1 => ?_) (fun h1 => ?_)
    · skip
      omega
    · skip
      refine Ev.aload_n (q := 29) dX5_crowdOf_28 rfl rfl ?_
      refine gR (q := 32) dX5_crowdOf_29 gfX5_23 k72 r72_1 rfl rfl ?_
      refine gR (q := 35) dX5_crowdOf_32 gfX5_89 k44 r44_6 rfl rfl ?_
      refine Ev.iload (q := 37) dX5_crowdOf_35 rfl rfl ?_
      refine aI (q := 38) (k := p) dX5_crowdOf_37 k51 (by first | rfl | omega | (simp (disch := omega) only [w32_of]; omega)) (by omega) rfl ?_
      rw [e51]
      refine Ev.iconst (q := 39) dX5_crowdOf_38 ki_m1 rfl ?_
      refine Ev.icmp_eq (tgt := 70) (q := 42) dX5_crowdOf_39 (by decide) rfl (fun h2 => ?_) (fun h2 => ?_)
      · skip
        refine Ev.iconst (q := 71) dX5_crowdOf_70 ki_1 rfl ?_
        refine Ev.goto (q := 75) dX5_crowdOf_71 (by decide) ?_
        refine istore_6 (q := 77) dX5_crowdOf_75 rfl rfl rfl ?_
        refine Ev.iload (q := 79) dX5_crowdOf_77 rfl rfl ?_
        refine Ev.if_eq (tgt := 119) (q := 82) dX5_crowdOf_79 (by decide) rfl (fun h21 => ?_) (fun h21 => ?_)
        · skip
          omega
        · skip
          refine Ev.aload_n (q := 83) dX5_crowdOf_82 rfl rfl ?_
          refine gR (q := 86) dX5_crowdOf_83 gfX5_23 k72 r72_1 rfl rfl ?_
          refine gR (q := 89) dX5_crowdOf_86 gfX5_36 k44 r44_4 rfl rfl ?_
          refine Ev.iload (q := 91) dX5_crowdOf_89 rfl rfl ?_
          refine aI (q := 92) (k := p) dX5_crowdOf_91 k49 (by first | rfl | omega | (simp (disch := omega) only [w32_of]; omega)) (by omega) rfl ?_
          rw [e49]
          refine Ev.iload_n (q := 93) dX5_crowdOf_92 rfl rfl ?_
          refine Ev.icmp_ne (tgt := 119) (q := 96) dX5_crowdOf_93 (by decide) rfl (fun h22 => ?_) (fun h22 => ?_)
          · skip
            refine iinc_5 (q := 122) dX5_crowdOf_119 rfl rfl rfl ?_
            refine Ev.goto (q := 16) dX5_crowdOf_122 (by decide) ?_
            have hq : ¬ parted g l k p = true := by unfold parted; intro z; have z := of_decide_eq_true z; omega
            rw [w32_of (by omega) (by omega)]
            rw [← (show setN (parted g l k) (p + 1) = setN (parted g l k) p by conv => lhs; unfold setN; rw [if_neg hq])]
            exact ih (p + 1) _ (by omega)
          · skip
            refine Ev.aload_n (q := 97) dX5_crowdOf_96 rfl rfl ?_
            refine gR (q := 100) dX5_crowdOf_97 gfX5_19 k72 r72_0 rfl rfl ?_
            refine gR (q := 103) dX5_crowdOf_100 gfX5_42 k33 r33_6 rfl rfl ?_
            refine Ev.iload (q := 105) dX5_crowdOf_103 rfl rfl ?_
            refine aI (q := 106) (k := p) dX5_crowdOf_105 k36 (by first | rfl | omega | (simp (disch := omega) only [w32_of]; omega)) (by omega) rfl ?_
            rw [e36]
            refine Ev.iload_n (q := 107) dX5_crowdOf_106 rfl rfl ?_
            refine Ev.icmp_eq (tgt := 119) (q := 110) dX5_crowdOf_107 (by decide) rfl (fun h23 => ?_) (fun h23 => ?_)
            · skip
              refine iinc_5 (q := 122) dX5_crowdOf_119 rfl rfl rfl ?_
              refine Ev.goto (q := 16) dX5_crowdOf_122 (by decide) ?_
              have hq : ¬ parted g l k p = true := by unfold parted; intro z; have z := of_decide_eq_true z; omega
              rw [w32_of (by omega) (by omega)]
              rw [← (show setN (parted g l k) (p + 1) = setN (parted g l k) p by conv => lhs; unfold setN; rw [if_neg hq])]
              exact ih (p + 1) _ (by omega)
            · skip
              refine Ev.iload (q := 112) dX5_crowdOf_110 rfl rfl ?_
              refine Ev.iconst (q := 113) dX5_crowdOf_112 ki_1 rfl ?_
              refine Ev.iload (q := 115) dX5_crowdOf_113 rfl rfl ?_
              refine Ev.ishl (q := 116) dX5_crowdOf_115 rfl ?_
              refine Ev.ior (q := 117) dX5_crowdOf_116 rfl ?_
              refine istore_4 (q := 119) dX5_crowdOf_117 rfl rfl rfl ?_
              refine iinc_5 (q := 122) dX5_crowdOf_119 rfl rfl rfl ?_
              refine Ev.goto (q := 16) dX5_crowdOf_122 (by decide) ?_
              have hq : parted g l k p = true := by unfold parted; exact decide_eq_true ⟨by omega, by omega, by omega⟩
              rw [ishl_1 p (by omega), ior_n (k := 12) h12 (two_lt (by omega)) (by decide), w32_of (by omega) (by omega)]
              rw [← (show setN (parted g l k) (p + 1) = setN (parted g l k) p ||| 2 ^ p by conv => lhs; unfold setN; rw [if_pos hq])]
              exact ih (p + 1) _ (by omega)
      · skip
        refine Ev.aload_n (q := 43) dX5_crowdOf_42 rfl rfl ?_
        refine gR (q := 46) dX5_crowdOf_43 gfX5_23 k72 r72_1 rfl rfl ?_
        refine gR (q := 49) dX5_crowdOf_46 gfX5_89 k44 r44_6 rfl rfl ?_
        refine Ev.iload (q := 51) dX5_crowdOf_49 rfl rfl ?_
        refine aI (q := 52) (k := p) dX5_crowdOf_51 k51 (by first | rfl | omega | (simp (disch := omega) only [w32_of]; omega)) (by omega) rfl ?_
        rw [e51]
        refine Ev.iload_n (q := 53) dX5_crowdOf_52 rfl rfl ?_
        refine Ev.icmp_eq (tgt := 70) (q := 56) dX5_crowdOf_53 (by decide) rfl (fun h3 => ?_) (fun h3 => ?_)
        · skip
          refine Ev.iconst (q := 71) dX5_crowdOf_70 ki_1 rfl ?_
          refine Ev.goto (q := 75) dX5_crowdOf_71 (by decide) ?_
          refine istore_6 (q := 77) dX5_crowdOf_75 rfl rfl rfl ?_
          refine Ev.iload (q := 79) dX5_crowdOf_77 rfl rfl ?_
          refine Ev.if_eq (tgt := 119) (q := 82) dX5_crowdOf_79 (by decide) rfl (fun h21 => ?_) (fun h21 => ?_)
          · skip
            omega
          · skip
            refine Ev.aload_n (q := 83) dX5_crowdOf_82 rfl rfl ?_
            refine gR (q := 86) dX5_crowdOf_83 gfX5_23 k72 r72_1 rfl rfl ?_
            refine gR (q := 89) dX5_crowdOf_86 gfX5_36 k44 r44_4 rfl rfl ?_
            refine Ev.iload (q := 91) dX5_crowdOf_89 rfl rfl ?_
            refine aI (q := 92) (k := p) dX5_crowdOf_91 k49 (by first | rfl | omega | (simp (disch := omega) only [w32_of]; omega)) (by omega) rfl ?_
            rw [e49]
            refine Ev.iload_n (q := 93) dX5_crowdOf_92 rfl rfl ?_
            refine Ev.icmp_ne (tgt := 119) (q := 96) dX5_crowdOf_93 (by decide) rfl (fun h22 => ?_) (fun h22 => ?_)
            · skip
              refine iinc_5 (q := 122) dX5_crowdOf_119 rfl rfl rfl ?_
              refine Ev.goto (q := 16) dX5_crowdOf_122 (by decide) ?_
              have hq : ¬ parted g l k p = true := by unfold parted; intro z; have z := of_decide_eq_true z; omega
              rw [w32_of (by omega) (by omega)]
              rw [← (show setN (parted g l k) (p + 1) = setN (parted g l k) p by conv => lhs; unfold setN; rw [if_neg hq])]
              exact ih (p + 1) _ (by omega)
            · skip
              refine Ev.aload_n (q := 97) dX5_crowdOf_96 rfl rfl ?_
              refine gR (q := 100) dX5_crowdOf_97 gfX5_19 k72 r72_0 rfl rfl ?_
              refine gR (q := 103) dX5_crowdOf_100 gfX5_42 k33 r33_6 rfl rfl ?_
              refine Ev.iload (q := 105) dX5_crowdOf_103 rfl rfl ?_
              refine aI (q := 106) (k := p) dX5_crowdOf_105 k36 (by first | rfl | omega | (simp (disch := omega) only [w32_of]; omega)) (by omega) rfl ?_
              rw [e36]
              refine Ev.iload_n (q := 107) dX5_crowdOf_106 rfl rfl ?_
              refine Ev.icmp_eq (tgt := 119) (q := 110) dX5_crowdOf_107 (by decide) rfl (fun h23 => ?_) (fun h23 => ?_)
              · skip
                refine iinc_5 (q := 122) dX5_crowdOf_119 rfl rfl rfl ?_
                refine Ev.goto (q := 16) dX5_crowdOf_122 (by decide) ?_
                have hq : ¬ parted g l k p = true := by unfold parted; intro z; have z := of_decide_eq_true z; omega
                rw [w32_of (by omega) (by omega)]
                rw [← (show setN (parted g l k) (p + 1) = setN (parted g l k) p by conv => lhs; unfold setN; rw [if_neg hq])]
                exact ih (p + 1) _ (by omega)
              · skip
                refine Ev.iload (q := 112) dX5_crowdOf_110 rfl rfl ?_
                refine Ev.iconst (q := 113) dX5_crowdOf_112 ki_1 rfl ?_
                refine Ev.iload (q := 115) dX5_crowdOf_113 rfl rfl ?_
                refine Ev.ishl (q := 116) dX5_crowdOf_115 rfl ?_
                refine Ev.ior (q := 117) dX5_crowdOf_116 rfl ?_
                refine istore_4 (q := 119) dX5_crowdOf_117 rfl rfl rfl ?_
                refine iinc_5 (q := 122) dX5_crowdOf_119 rfl rfl rfl ?_
                refine Ev.goto (q := 16) dX5_crowdOf_122 (by decide) ?_
                have hq : parted g l k p = true := by unfold parted; exact decide_eq_true ⟨by omega, by omega, by omega⟩
                rw [ishl_1 p (by omega), ior_n (k := 12) h12 (two_lt (by omega)) (by decide), w32_of (by omega) (by omega)]
                rw [← (show setN (parted g l k) (p + 1) = setN (parted g l k) p ||| 2 ^ p by conv => lhs; unfold setN; rw [if_pos hq])]
                exact ih (p + 1) _ (by omega)
        · skip
          refine Ev.aload_n (q := 57) dX5_crowdOf_56 rfl rfl ?_
          refine gR (q := 60) dX5_crowdOf_57 gfX5_23 k72 r72_1 rfl rfl ?_
          refine gR (q := 63) dX5_crowdOf_60 gfX5_89 k44 r44_6 rfl rfl ?_
          refine Ev.iload (q := 65) dX5_crowdOf_63 rfl rfl ?_
          refine aI (q := 66) (k := p) dX5_crowdOf_65 k51 (by first | rfl | omega | (simp (disch := omega) only [w32_of]; omega)) (by omega) rfl ?_
          rw [e51]
          refine Ev.iload_n (q := 67) dX5_crowdOf_66 rfl rfl ?_
          refine Ev.icmp_ne (tgt := 74) (q := 70) dX5_crowdOf_67 (by decide) rfl (fun h4 => ?_) (fun h4 => ?_)
          · skip
            refine Ev.iconst (q := 75) dX5_crowdOf_74 ki_0 rfl ?_
            refine istore_6 (q := 77) dX5_crowdOf_75 rfl rfl rfl ?_
            refine Ev.iload (q := 79) dX5_crowdOf_77 rfl rfl ?_
            refine Ev.if_eq (tgt := 119) (q := 82) dX5_crowdOf_79 (by decide) rfl (fun h21 => ?_) (fun h21 => ?_)
            · skip
              refine iinc_5 (q := 122) dX5_crowdOf_119 rfl rfl rfl ?_
              refine Ev.goto (q := 16) dX5_crowdOf_122 (by decide) ?_
              have hq : ¬ parted g l k p = true := by unfold parted; intro z; have z := of_decide_eq_true z; omega
              rw [w32_of (by omega) (by omega)]
              rw [← (show setN (parted g l k) (p + 1) = setN (parted g l k) p by conv => lhs; unfold setN; rw [if_neg hq])]
              exact ih (p + 1) _ (by omega)
            · skip
              omega
          · skip
            refine Ev.iconst (q := 71) dX5_crowdOf_70 ki_1 rfl ?_
            refine Ev.goto (q := 75) dX5_crowdOf_71 (by decide) ?_
            refine istore_6 (q := 77) dX5_crowdOf_75 rfl rfl rfl ?_
            refine Ev.iload (q := 79) dX5_crowdOf_77 rfl rfl ?_
            refine Ev.if_eq (tgt := 119) (q := 82) dX5_crowdOf_79 (by decide) rfl (fun h21 => ?_) (fun h21 => ?_)
            · skip
              omega
            · skip
              refine Ev.aload_n (q := 83) dX5_crowdOf_82 rfl rfl ?_
              refine gR (q := 86) dX5_crowdOf_83 gfX5_23 k72 r72_1 rfl rfl ?_
              refine gR (q := 89) dX5_crowdOf_86 gfX5_36 k44 r44_4 rfl rfl ?_
              refine Ev.iload (q := 91) dX5_crowdOf_89 rfl rfl ?_
              refine aI (q := 92) (k := p) dX5_crowdOf_91 k49 (by first | rfl | omega | (simp (disch := omega) only [w32_of]; omega)) (by omega) rfl ?_
              rw [e49]
              refine Ev.iload_n (q := 93) dX5_crowdOf_92 rfl rfl ?_
              refine Ev.icmp_ne (tgt := 119) (q := 96) dX5_crowdOf_93 (by decide) rfl (fun h22 => ?_) (fun h22 => ?_)
              · skip
                refine iinc_5 (q := 122) dX5_crowdOf_119 rfl rfl rfl ?_
                refine Ev.goto (q := 16) dX5_crowdOf_122 (by decide) ?_
                have hq : ¬ parted g l k p = true := by unfold parted; intro z; have z := of_decide_eq_true z; omega
                rw [w32_of (by omega) (by omega)]
                rw [← (show setN (parted g l k) (p + 1) = setN (parted g l k) p by conv => lhs; unfold setN; rw [if_neg hq])]
                exact ih (p + 1) _ (by omega)
              · skip
                refine Ev.aload_n (q := 97) dX5_crowdOf_96 rfl rfl ?_
                refine gR (q := 100) dX5_crowdOf_97 gfX5_19 k72 r72_0 rfl rfl ?_
                refine gR (q := 103) dX5_crowdOf_100 gfX5_42 k33 r33_6 rfl rfl ?_
                refine Ev.iload (q := 105) dX5_crowdOf_103 rfl rfl ?_
                refine aI (q := 106) (k := p) dX5_crowdOf_105 k36 (by first | rfl | omega | (simp (disch := omega) only [w32_of]; omega)) (by omega) rfl ?_
                rw [e36]
                refine Ev.iload_n (q := 107) dX5_crowdOf_106 rfl rfl ?_
                refine Ev.icmp_eq (tgt := 119) (q := 110) dX5_crowdOf_107 (by decide) rfl (fun h23 => ?_) (fun h23 => ?_)
                · skip
                  refine iinc_5 (q := 122) dX5_crowdOf_119 rfl rfl rfl ?_
                  refine Ev.goto (q := 16) dX5_crowdOf_122 (by decide) ?_
                  have hq : ¬ parted g l k p = true := by unfold parted; intro z; have z := of_decide_eq_true z; omega
                  rw [w32_of (by omega) (by omega)]
                  rw [← (show setN (parted g l k) (p + 1) = setN (parted g l k) p by conv => lhs; unfold setN; rw [if_neg hq])]
                  exact ih (p + 1) _ (by omega)
                · skip
                  refine Ev.iload (q := 112) dX5_crowdOf_110 rfl rfl ?_
                  refine Ev.iconst (q := 113) dX5_crowdOf_112 ki_1 rfl ?_
                  refine Ev.iload (q := 115) dX5_crowdOf_113 rfl rfl ?_
                  refine Ev.ishl (q := 116) dX5_crowdOf_115 rfl ?_
                  refine Ev.ior (q := 117) dX5_crowdOf_116 rfl ?_
                  refine istore_4 (q := 119) dX5_crowdOf_117 rfl rfl rfl ?_
                  refine iinc_5 (q := 122) dX5_crowdOf_119 rfl rfl rfl ?_
                  refine Ev.goto (q := 16) dX5_crowdOf_122 (by decide) ?_
                  have hq : parted g l k p = true := by unfold parted; exact decide_eq_true ⟨by omega, by omega, by omega⟩
                  rw [ishl_1 p (by omega), ior_n (k := 12) h12 (two_lt (by omega)) (by decide), w32_of (by omega) (by omega)]
                  rw [← (show setN (parted g l k) (p + 1) = setN (parted g l k) p ||| 2 ^ p by conv => lhs; unfold setN; rw [if_pos hq])]
                  exact ih (p + 1) _ (by omega)
set_option maxRecDepth 4000 in
theorem p_X5_crowdOf {Γ : Gm} {d : Nat} {m : Mem} (g : Row) (l k : Nat) (hI : HI g) (hH : HouR g m 33) (hN : NowR g m 44) (hl : (l : Int) < g 2) : Ci Γ (d + 0) MX5_crowdOf [rv 72, iv l, iv k] m (fun r m' => r = (setN (parted g l k) (g 3).toNat : Int) ∧ m' = m) := by
  refine Ci.of moX5_crowdOf rfl rfl (fun hA hM => ?_)
  show Em Γ (d + 0) MX5_crowdOf _ 0 [rv 72, iv l, iv k, uv, uv, uv, uv] [] m
  have hL3 := hI.2.1
  have hP8 := hI.2.2.1
  refine Ev.aload_n (q := 1) dX5_crowdOf_0 rfl rfl ?_
  refine gR (q := 4) dX5_crowdOf_1 gfX5_23 k72 r72_1 rfl rfl ?_
  refine gR (q := 7) dX5_crowdOf_4 gfX5_83 k44 r44_0 rfl rfl ?_
  refine Ev.iload_n (q := 8) dX5_crowdOf_7 rfl rfl ?_
  refine aI (q := 9) (k := l) dX5_crowdOf_8 k45 (by first | rfl | omega | (simp (disch := omega) only [w32_of]; omega)) (by omega) rfl ?_
  rw [show m 45 l = g (60 + l) from (hN.1 l hl).1]
  refine istore_n_3 (q := 10) dX5_crowdOf_9 rfl rfl rfl ?_
  refine Ev.iconst (q := 11) dX5_crowdOf_10 ki_0 rfl ?_
  refine istore_4 (q := 13) dX5_crowdOf_11 rfl rfl rfl ?_
  refine Ev.iconst (q := 14) dX5_crowdOf_13 ki_0 rfl ?_
  refine istore_5 (q := 16) dX5_crowdOf_14 rfl rfl rfl ?_
  exact l_crowdOf g hI hH hN l k (g 3).toNat 0 uv (by omega)
set_option maxRecDepth 4000 in
theorem l_homesOf {Γ : Gm} {d : Nat} {m : Mem} (g : Row) (hI : HI g) (hH : HouR g m 33) (hN : NowR g m 44) (l k : Nat) : ∀ (n p : Nat), p + n = (g 3).toNat → Em Γ (d + 0) MX5_homesOf (fun r m' => r = (hms g l k (g 3).toNat : Int) ∧ m' = m) 4 [rv 72, iv ((setN (parted g l k) (g 3).toNat) : Nat), iv (hms g l k p : Nat), iv p] [] m := by
  have hF12 := hI.1
  have hP8 := hI.2.2.1
  have hL3 := hI.2.1
  have e33 : m 33 3 = g 3 := hH.n0.2.2.2
  intro n
  induction n with
  | zero =>
    intro p hp
    refine Ev.iload_n (q := 5) dX5_homesOf_4 rfl rfl ?_
    refine Ev.aload_n (q := 6) dX5_homesOf_5 rfl rfl ?_
    refine gR (q := 9) dX5_homesOf_6 gfX5_19 k72 r72_0 rfl rfl ?_
    refine gI (q := 12) dX5_homesOf_9 gfX5_86 k33 rfl rfl ?_
    rw [e33]
    refine Ev.icmp_ge (tgt := 43) (q := 15) dX5_homesOf_12 (by decide) rfl (fun h1 => ?_) (fun h1 => ?_)
    · skip
      refine Ev.iload_n (q := 44) dX5_homesOf_43 rfl rfl ?_
      refine rI dX5_homesOf_44 rfl ?_
      obtain rfl : p = (g 3).toNat := by omega
      exact ⟨rfl, rfl⟩
    · skip
      omega
  | succ n ih =>
    intro p hp
    have e36 : m 36 p = g (28 + p) := (hH.ho (by omega)).1
    have hpp := (hI.pers (p := p) (by omega)).1
    have hb := bit_and (s := (setN (parted g l k) (g 3).toNat)) (setN_12 (parted g l k) (by omega)) (show p < 12 by omega)
    rw [setN_bit, decide_eq_true (show p < (g 3).toNat by omega), Bool.true_and] at hb
    refine Ev.iload_n (q := 5) dX5_homesOf_4 rfl rfl ?_
    refine Ev.aload_n (q := 6) dX5_homesOf_5 rfl rfl ?_
    refine gR (q := 9) dX5_homesOf_6 gfX5_19 k72 r72_0 rfl rfl ?_
    refine gI (q := 12) dX5_homesOf_9 gfX5_86 k33 rfl rfl ?_
    rw [e33]
    refine Ev.icmp_ge (tgt := 43) (q := 15) dX5_homesOf_12 (by decide) rfl (fun h1 => ?_) (fun h1 => ?_)
    · skip
      omega
    · skip
      refine Ev.iload_n (q := 16) dX5_homesOf_15 rfl rfl ?_
      refine Ev.iconst (q := 17) dX5_homesOf_16 ki_1 rfl ?_
      refine Ev.iload_n (q := 18) dX5_homesOf_17 rfl rfl ?_
      refine Ev.ishl (q := 19) dX5_homesOf_18 rfl ?_
      refine Ev.iand (q := 20) dX5_homesOf_19 rfl ?_
      refine Ev.if_eq (tgt := 37) (q := 23) dX5_homesOf_20 (by decide) rfl (fun h2 => ?_) (fun h2 => ?_)
      · skip
        have hq : ¬ parted g l k p = true := by rw [hb.mp h2]; decide
        refine iinc_3 (q := 40) dX5_homesOf_37 rfl rfl rfl ?_
        refine Ev.goto (q := 4) dX5_homesOf_40 (by decide) ?_
        rw [w32_of (by omega) (by omega)]
        have hk9 := ih (p + 1) (by omega)
        rw [show hms g l k (p + 1) = hms g l k p by conv => lhs; unfold hms; rw [if_neg hq]] at hk9
        exact hk9
      · skip
        have hq : parted g l k p = true := by cases hz : parted g l k p with
          | true => rfl
          | false => exact absurd (hb.mpr hz) h2
        refine Ev.iload_n (q := 24) dX5_homesOf_23 rfl rfl ?_
        refine Ev.iconst (q := 25) dX5_homesOf_24 ki_1 rfl ?_
        refine Ev.aload_n (q := 26) dX5_homesOf_25 rfl rfl ?_
        refine gR (q := 29) dX5_homesOf_26 gfX5_19 k72 r72_0 rfl rfl ?_
        refine gR (q := 32) dX5_homesOf_29 gfX5_42 k33 r33_6 rfl rfl ?_
        refine Ev.iload_n (q := 33) dX5_homesOf_32 rfl rfl ?_
        refine aI (q := 34) (k := p) dX5_homesOf_33 k36 (by first | rfl | omega | (simp (disch := omega) only [w32_of]; omega)) (by omega) rfl ?_
        rw [e36]
        refine Ev.ishl (q := 35) dX5_homesOf_34 rfl ?_
        refine Ev.ior (q := 36) dX5_homesOf_35 rfl ?_
        refine istore_n_2 (q := 37) dX5_homesOf_36 rfl rfl rfl ?_
        refine iinc_3 (q := 40) dX5_homesOf_37 rfl rfl rfl ?_
        refine Ev.goto (q := 4) dX5_homesOf_40 (by decide) ?_
        rw [show g (28 + p) = (((g (28 + p)).toNat : Nat) : Int) by omega, ishl_1 _ (by omega), ior_n (k := 12) ((hms_ok hI (l := l) (k := k) p (by omega)).lt hI) (two_lt (by omega)) (by decide), w32_of (by omega) (by omega)]
        have hk9 := ih (p + 1) (by omega)
        rw [show hms g l k (p + 1) = hms g l k p ||| 2 ^ (g (28 + p)).toNat by conv => lhs; unfold hms; rw [if_pos hq]] at hk9
        exact hk9
set_option maxRecDepth 4000 in
theorem p_X5_homesOf {Γ : Gm} {d : Nat} {m : Mem} (g : Row) (l k : Nat) (hI : HI g) (hH : HouR g m 33) (hN : NowR g m 44) : Ci Γ (d + 0) MX5_homesOf [rv 72, iv ((setN (parted g l k) (g 3).toNat) : Nat)] m (fun r m' => r = (hms g l k (g 3).toNat : Int) ∧ m' = m) := by
  refine Ci.of moX5_homesOf rfl rfl (fun hA hM => ?_)
  show Em Γ (d + 0) MX5_homesOf _ 0 [rv 72, iv ((setN (parted g l k) (g 3).toNat) : Nat), uv, uv] [] m
  have hP8 := hI.2.2.1
  refine Ev.iconst (q := 1) dX5_homesOf_0 ki_0 rfl ?_
  refine istore_n_2 (q := 2) dX5_homesOf_1 rfl rfl rfl ?_
  refine Ev.iconst (q := 3) dX5_homesOf_2 ki_0 rfl ?_
  refine istore_n_3 (q := 4) dX5_homesOf_3 rfl rfl rfl ?_
  exact l_homesOf g hI hH hN l k (g 3).toNat 0 (by omega)
set_option maxRecDepth 4000 in
theorem l_worthAt {Γ : Gm} {d : Nat} {m : Mem} (g : Row) (hI : HI g) (hH : HouR g m 33) (hN : NowR g m 44) (l k f : Nat) : ∀ (n p : Nat), p + n = (g 3).toNat → Em Γ (d + 0) MX5_worthAt (fun r m' => r = wrN g l k f (g 3).toNat ∧ m' = m) 5 [rv 72, iv f, iv ((setN (parted g l k) (g 3).toNat) : Nat), iv (wrN g l k f p), iv p] [] m := by
  have hF12 := hI.1
  have hP8 := hI.2.2.1
  have hL3 := hI.2.1
  have e33 : m 33 3 = g 3 := hH.n0.2.2.2
  intro n
  induction n with
  | zero =>
    intro p hp
    refine Ev.iload (q := 7) dX5_worthAt_5 rfl rfl ?_
    refine Ev.aload_n (q := 8) dX5_worthAt_7 rfl rfl ?_
    refine gR (q := 11) dX5_worthAt_8 gfX5_19 k72 r72_0 rfl rfl ?_
    refine gI (q := 14) dX5_worthAt_11 gfX5_86 k33 rfl rfl ?_
    rw [e33]
    refine Ev.icmp_ge (tgt := 59) (q := 17) dX5_worthAt_14 (by decide) rfl (fun h1 => ?_) (fun h1 => ?_)
    · skip
      refine Ev.iload_n (q := 60) dX5_worthAt_59 rfl rfl ?_
      refine rI dX5_worthAt_60 rfl ?_
      obtain rfl : p = (g 3).toNat := by omega
      exact ⟨rfl, rfl⟩
    · skip
      omega
  | succ n ih =>
    intro p hp
    have e36 : m 36 p = g (28 + p) := (hH.ho (by omega)).1
    have e39 : m 39 p = g (52 + p) := (hH.ho (by omega)).2.2.2
    have hpp := (hI.pers (p := p) (by omega)).2.2.2.1
    have hwb := wrN_bd hI l k f p (by omega)
    have hb := bit_and (s := (setN (parted g l k) (g 3).toNat)) (setN_12 (parted g l k) (by omega)) (show p < 12 by omega)
    rw [setN_bit, decide_eq_true (show p < (g 3).toNat by omega), Bool.true_and] at hb
    refine Ev.iload (q := 7) dX5_worthAt_5 rfl rfl ?_
    refine Ev.aload_n (q := 8) dX5_worthAt_7 rfl rfl ?_
    refine gR (q := 11) dX5_worthAt_8 gfX5_19 k72 r72_0 rfl rfl ?_
    refine gI (q := 14) dX5_worthAt_11 gfX5_86 k33 rfl rfl ?_
    rw [e33]
    refine Ev.icmp_ge (tgt := 59) (q := 17) dX5_worthAt_14 (by decide) rfl (fun h1 => ?_) (fun h1 => ?_)
    · skip
      omega
    · skip
      refine Ev.iload_n (q := 18) dX5_worthAt_17 rfl rfl ?_
      refine Ev.iconst (q := 19) dX5_worthAt_18 ki_1 rfl ?_
      refine Ev.iload (q := 21) dX5_worthAt_19 rfl rfl ?_
      refine Ev.ishl (q := 22) dX5_worthAt_21 rfl ?_
      refine Ev.iand (q := 23) dX5_worthAt_22 rfl ?_
      refine Ev.if_eq (tgt := 53) (q := 26) dX5_worthAt_23 (by decide) rfl (fun h2 => ?_) (fun h2 => ?_)
      · skip
        have hq : ¬ parted g l k p = true := by rw [hb.mp h2]; decide
        refine iinc_4 (q := 56) dX5_worthAt_53 rfl rfl rfl ?_
        refine Ev.goto (q := 5) dX5_worthAt_56 (by decide) ?_
        rw [w32_of (by omega) (by omega)]
        have hk9 := ih (p + 1) (by omega)
        rw [show wrN g l k f (p + 1) = wrN g l k f p by conv => lhs; unfold wrN; rw [if_neg (fun z => hq z.1)]] at hk9
        exact hk9
      · skip
        have hq : parted g l k p = true := by cases hz : parted g l k p with
          | true => rfl
          | false => exact absurd (hb.mpr hz) h2
        refine Ev.aload_n (q := 27) dX5_worthAt_26 rfl rfl ?_
        refine gR (q := 30) dX5_worthAt_27 gfX5_19 k72 r72_0 rfl rfl ?_
        refine gR (q := 33) dX5_worthAt_30 gfX5_42 k33 r33_6 rfl rfl ?_
        refine Ev.iload (q := 35) dX5_worthAt_33 rfl rfl ?_
        refine aI (q := 36) (k := p) dX5_worthAt_35 k36 (by first | rfl | omega | (simp (disch := omega) only [w32_of]; omega)) (by omega) rfl ?_
        rw [e36]
        refine Ev.iload_n (q := 37) dX5_worthAt_36 rfl rfl ?_
        refine Ev.icmp_ne (tgt := 53) (q := 40) dX5_worthAt_37 (by decide) rfl (fun h3 => ?_) (fun h3 => ?_)
        · skip
          refine iinc_4 (q := 56) dX5_worthAt_53 rfl rfl rfl ?_
          refine Ev.goto (q := 5) dX5_worthAt_56 (by decide) ?_
          rw [w32_of (by omega) (by omega)]
          have hk9 := ih (p + 1) (by omega)
          rw [show wrN g l k f (p + 1) = wrN g l k f p by conv => lhs; unfold wrN; rw [if_neg (fun z => by have := z.2; omega)]] at hk9
          exact hk9
        · skip
          refine Ev.iload_n (q := 41) dX5_worthAt_40 rfl rfl ?_
          refine Ev.aload_n (q := 42) dX5_worthAt_41 rfl rfl ?_
          refine gR (q := 45) dX5_worthAt_42 gfX5_19 k72 r72_0 rfl rfl ?_
          refine gR (q := 48) dX5_worthAt_45 gfX5_102 k33 r33_9 rfl rfl ?_
          refine Ev.iload (q := 50) dX5_worthAt_48 rfl rfl ?_
          refine aI (q := 51) (k := p) dX5_worthAt_50 k39 (by first | rfl | omega | (simp (disch := omega) only [w32_of]; omega)) (by omega) rfl ?_
          rw [e39]
          refine Ev.iadd (q := 52) dX5_worthAt_51 rfl ?_
          refine istore_n_3 (q := 53) dX5_worthAt_52 rfl rfl rfl ?_
          refine iinc_4 (q := 56) dX5_worthAt_53 rfl rfl rfl ?_
          refine Ev.goto (q := 5) dX5_worthAt_56 (by decide) ?_
          rw [w32_of (by omega) (by omega), w32_of (by omega) (by omega)]
          have hk9 := ih (p + 1) (by omega)
          rw [show wrN g l k f (p + 1) = wrN g l k f p + g (52 + p) by conv => lhs; unfold wrN; rw [if_pos ⟨hq, by omega⟩]] at hk9
          exact hk9
set_option maxRecDepth 4000 in
theorem p_X5_worthAt {Γ : Gm} {d : Nat} {m : Mem} (g : Row) (l k f : Nat) (hI : HI g) (hH : HouR g m 33) (hN : NowR g m 44) : Ci Γ (d + 0) MX5_worthAt [rv 72, iv f, iv ((setN (parted g l k) (g 3).toNat) : Nat)] m (fun r m' => r = wrN g l k f (g 3).toNat ∧ m' = m) := by
  refine Ci.of moX5_worthAt rfl rfl (fun hA hM => ?_)
  show Em Γ (d + 0) MX5_worthAt _ 0 [rv 72, iv f, iv ((setN (parted g l k) (g 3).toNat) : Nat), uv, uv] [] m
  have hP8 := hI.2.2.1
  refine Ev.iconst (q := 1) dX5_worthAt_0 ki_0 rfl ?_
  refine istore_n_3 (q := 2) dX5_worthAt_1 rfl rfl rfl ?_
  refine Ev.iconst (q := 3) dX5_worthAt_2 ki_0 rfl ?_
  refine istore_4 (q := 5) dX5_worthAt_3 rfl rfl rfl ?_
  exact l_worthAt g hI hH hN l k f (g 3).toNat 0 (by omega)
