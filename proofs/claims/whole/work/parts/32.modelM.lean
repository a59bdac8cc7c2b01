/-! ===== the reference: two lifts that part ===== -/
/-- the second from when on the lift may go, behind the first n people -/
def tkS (g : Nat → Int) (l k fl : Nat) (t0 : Int) : Nat → Int
  | 0 => t0
  | n + 1 => if parted g l k n = true ∧ fl.testBit (g (28 + n)).toNat = true ∧ tkS g l k fl t0 n < g (80 + n) then g (80 + n) else tkS g l k fl t0 n
/-- those of the first n whose home is f, come at c -/
def tkW (g : Nat → Int) (l k f : Nat) (c s0 : Int) : Nat → Int
  | 0 => s0
  | n + 1 => if parted g l k n = true ∧ g (28 + n) = f then w64 (tkW g l k f c s0 n + w64 (c * g (52 + n))) else tkW g l k f c s0 n
def tkL (g : Nat → Int) (l k one : Nat) : Nat → Tr → Int → Int
  | 0, _, s => s
  | n + 1, t, s => match tgo (g (22 + one)) (stopV g one) t with
    | none => s
    | some t' => tkL g l k one n t' (tkW g l k t'.1 t'.2.2.2.2 s (g 3).toNat)
def takV (g : Nat → Int) (one l k fl : Nat) : Int := tkL g l k one 13 ((g (60 + one)).toNat, tkS g l k fl (g (63 + one)) (g 3).toNat, fl, decide (g (69 + one) = 1), 0) 0
theorem tkL_came (g : Nat → Int) (l k one n : Nat) (t : Tr) (s c' : Int) : tkL g l k one n t s = tkL g l k one n (t.1, t.2.1, t.2.2.1, t.2.2.2.1, c') s := by
  cases n with
  | zero => rfl
  | succ n => rfl
set_option maxRecDepth 4000 in
theorem l_takesS {Γ : Gm} {d : Nat} {m0 : Mem} {Po : Int → Mem → Prop} (one l k fl P : Nat) (hI : HI (m0 212)) (ho : (one : Int) < m0 212 2) (hl : (l : Int) < m0 212 2) (hk : (k : Int) < m0 212 2) (hfl : fl < 4096) (hP : m0 212 3 = P) (h : Nat) (t0 : Int) (u : Bool) (c : Int) (s0 : Int)
    (kont : ∀ (m : Mem) (v8 : Vl), Fr sT m0 m → m 212 = m0 212 → TM m one (h, tkS (m0 212) l k fl t0 P, fl, u, c) → Em Γ (d + 4) MX12_takesTo Po 95 [rv 211, iv one, iv l, iv k, iv fl, jv s0, uv, iv P, v8] [] m) :
    ∀ (n p : Nat), p + n = P → ∀ (v8 : Vl) (m : Mem), Fr sT m0 m → m 212 = m0 212 → TM m one (h, tkS (m0 212) l k fl t0 p, fl, u, c) → Em Γ (d + 4) MX12_takesTo Po 17 [rv 211, iv one, iv l, iv k, iv fl, jv s0, uv, iv p, v8] [] m := by
  intro n
  induction n with
  | zero =>
    intro p hp v8 m hF0 g12 hT
    obtain rfl : P = p := by omega
    have hF9 := hI.1
    have hL3 := hI.2.1
    have hP8 := hI.2.2.1
    refine Ev.iload (q := 19) dX12_takesTo_17 rfl rfl ?_
    refine Ev.aload_n (q := 20) dX12_takesTo_19 rfl rfl ?_
    refine gR (q := 23) dX12_takesTo_20 gfX12_13 k211 r211_1 rfl rfl ?_
    refine Ev.iconst (q := 24) dX12_takesTo_23 ki_3 rfl ?_
    refine aI (q := 25) (k := 3) dX12_takesTo_24 k212 (by rfl) (by decide) rfl ?_
    refine Ev.icmp_ge (tgt := 95) (q := 28) dX12_takesTo_25 (by decide) rfl (fun h1 => ?_) (fun h1 => ?_)
    · skip
      exact kont m v8 hF0 g12 hT
    · skip
      rw [g12] at h1; omega
  | succ n ih =>
    intro p hp v8 m hF0 g12 hT
    have hF9 := hI.1
    have hL3 := hI.2.1
    have hP8 := hI.2.2.1
    refine Ev.iload (q := 19) dX12_takesTo_17 rfl rfl ?_
    refine Ev.aload_n (q := 20) dX12_takesTo_19 rfl rfl ?_
    refine gR (q := 23) dX12_takesTo_20 gfX12_13 k211 r211_1 rfl rfl ?_
    refine Ev.iconst (q := 24) dX12_takesTo_23 ki_3 rfl ?_
    refine aI (q := 25) (k := 3) dX12_takesTo_24 k212 (by rfl) (by decide) rfl ?_
    refine Ev.icmp_ge (tgt := 95) (q := 28) dX12_takesTo_25 (by decide) rfl (fun h1 => ?_) (fun h1 => ?_)
    · skip
      rw [g12] at h1; omega
    · skip
      refine Ev.aload_n (q := 29) dX12_takesTo_28 rfl rfl ?_
      refine Ev.iload (q := 31) dX12_takesTo_29 rfl rfl ?_
      refine Ev.iload_n (q := 32) dX12_takesTo_31 rfl rfl ?_
      refine Ev.iload_n (q := 33) dX12_takesTo_32 rfl rfl ?_
      refine cV3i (q := 36) (d' := d + 3) dX12_takesTo_33 mlX12_395 moX12_isParted mvX12_isParted k211 rfl rfl rfl (Nat.le_refl _) rfl rfl rfl (p_X12_isParted p l k (by omega) (by omega) (by omega)) (fun r2 m2 e2 => ?_)
      obtain ⟨rfl, e2⟩ := e2
      obtain rfl := e2.symm
      rw [g12]
      refine Ev.if_eq (tgt := 89) (q := 39) dX12_takesTo_36 (by decide) rfl (fun h3 => ?_) (fun h3 => ?_)
      · skip
        have hpa : ¬ parted (m0 212) l k p = true := by split at h3 <;> simp_all
        refine iinc_7 (q := 92) dX12_takesTo_89 rfl rfl rfl ?_
        refine Ev.goto (q := 17) dX12_takesTo_92 (by decide) ?_
        rw [w32_of (by omega) (by omega)]
        have e9 : tkS (m0 212) l k fl t0 (p + 1) = tkS (m0 212) l k fl t0 p := by conv => lhs; unfold tkS; rw [if_neg (by rintro ⟨q1, q2, q3⟩; first | exact absurd q1 hpa | exact absurd q2 hbt | (dsimp only at *; omega))]
        rw [← e9] at hT
        exact ih (p + 1) (by omega) _ _ hF0 g12 hT
      · skip
        have hpa : parted (m0 212) l k p = true := by split at h3 <;> simp_all
        have hpers := hI.pers (p := p) (by omega)
        obtain ⟨hm, hhm⟩ : ∃ hm : Nat, m0 212 (28 + p) = hm := ⟨(m0 212 (28 + p)).toNat, by omega⟩
        refine Ev.iload (q := 41) dX12_takesTo_39 rfl rfl ?_
        refine Ev.i2l (q := 42) dX12_takesTo_41 rfl ?_
        refine Ev.aload_n (q := 43) dX12_takesTo_42 rfl rfl ?_
        refine gR (q := 46) dX12_takesTo_43 gfX12_13 k211 r211_1 rfl rfl ?_
        refine Ev.bipush (q := 48) dX12_takesTo_46 kb_28 rfl ?_
        refine Ev.iload (q := 50) dX12_takesTo_48 rfl rfl ?_
        refine Ev.iadd (q := 51) dX12_takesTo_50 rfl ?_
        refine aI (q := 52) (k := 28 + p) dX12_takesTo_51 k212 (by first | rfl | omega | (simp (disch := omega) only [w32_of]; omega)) (by omega) rfl ?_
        rw [g12, hhm]
        refine cS2i (q := 55) (d' := d + 3) dX12_takesTo_52 mlX12_207 moX12_isIn msX12_isIn rfl rfl (Nat.le_refl _) rfl rfl rfl (p_X12_isIn fl hm hfl (by omega)) (fun r4 m4 e4 => ?_)
        obtain ⟨rfl, e4⟩ := e4
        obtain rfl := e4.symm
        refine Ev.if_eq (tgt := 89) (q := 58) dX12_takesTo_55 (by decide) rfl (fun h5 => ?_) (fun h5 => ?_)
        · skip
          have hbt : ¬ fl.testBit (m0 212 (28 + p)).toNat = true := by rw [hhm, Int.toNat_natCast]; split at h5 <;> simp_all
          refine iinc_7 (q := 92) dX12_takesTo_89 rfl rfl rfl ?_
          refine Ev.goto (q := 17) dX12_takesTo_92 (by decide) ?_
          rw [w32_of (by omega) (by omega)]
          have e9 : tkS (m0 212) l k fl t0 (p + 1) = tkS (m0 212) l k fl t0 p := by conv => lhs; unfold tkS; rw [if_neg (by rintro ⟨q1, q2, q3⟩; first | exact absurd q1 hpa | exact absurd q2 hbt | (dsimp only at *; omega))]
          rw [← e9] at hT
          exact ih (p + 1) (by omega) _ _ hF0 g12 hT
        · skip
          have hbt : fl.testBit (m0 212 (28 + p)).toNat = true := by rw [hhm, Int.toNat_natCast]; split at h5 <;> simp_all
          refine Ev.aload_n (q := 59) dX12_takesTo_58 rfl rfl ?_
          refine gI (q := 62) dX12_takesTo_59 gfX12_197 k211 rfl rfl ?_
          rw [hT.2.2.1]
          refine Ev.aload_n (q := 63) dX12_takesTo_62 rfl rfl ?_
          refine gR (q := 66) dX12_takesTo_63 gfX12_13 k211 r211_1 rfl rfl ?_
          refine Ev.bipush (q := 68) dX12_takesTo_66 kb_80 rfl ?_
          refine Ev.iload (q := 70) dX12_takesTo_68 rfl rfl ?_
          refine Ev.iadd (q := 71) dX12_takesTo_70 rfl ?_
          refine aI (q := 72) (k := 80 + p) dX12_takesTo_71 k212 (by first | rfl | omega | (simp (disch := omega) only [w32_of]; omega)) (by omega) rfl ?_
          rw [g12]
          refine Ev.icmp_ge (tgt := 89) (q := 75) dX12_takesTo_72 (by decide) rfl (fun h6 => ?_) (fun h6 => ?_)
          · skip
            refine iinc_7 (q := 92) dX12_takesTo_89 rfl rfl rfl ?_
            refine Ev.goto (q := 17) dX12_takesTo_92 (by decide) ?_
            rw [w32_of (by omega) (by omega)]
            have e9 : tkS (m0 212) l k fl t0 (p + 1) = tkS (m0 212) l k fl t0 p := by conv => lhs; unfold tkS; rw [if_neg (by rintro ⟨q1, q2, q3⟩; first | exact absurd q1 hpa | exact absurd q2 hbt | (dsimp only at *; omega))]
            rw [← e9] at hT
            exact ih (p + 1) (by omega) _ _ hF0 g12 hT
          · skip
            refine Ev.aload_n (q := 76) dX12_takesTo_75 rfl rfl ?_
            refine Ev.aload_n (q := 77) dX12_takesTo_76 rfl rfl ?_
            refine gR (q := 80) dX12_takesTo_77 gfX12_13 k211 r211_1 rfl rfl ?_
            refine Ev.bipush (q := 82) dX12_takesTo_80 kb_80 rfl ?_
            refine Ev.iload (q := 84) dX12_takesTo_82 rfl rfl ?_
            refine Ev.iadd (q := 85) dX12_takesTo_84 rfl ?_
            refine aI (q := 86) (k := 80 + p) dX12_takesTo_85 k212 (by first | rfl | omega | (simp (disch := omega) only [w32_of]; omega)) (by omega) rfl ?_
            rw [g12]
            refine pI (q := 89) dX12_takesTo_86 gfX12_197 k211 rfl rfl ?_
            refine iinc_7 (q := 92) dX12_takesTo_89 rfl rfl rfl ?_
            refine Ev.goto (q := 17) dX12_takesTo_92 (by decide) ?_
            have hT9 : TM (up m 211 20 (m0 212 (80 + p))) one (h, m0 212 (80 + p), fl, u, c) := by
              unfold TM
              simp (disch := omega) only [up_k, up_eq]
              refine ⟨hT.1, hT.2.1, ?_, hT.2.2.2.1, hT.2.2.2.2⟩
              first | trivial | rfl
            rw [w32_of (by omega) (by omega)]
            have e9 : tkS (m0 212) l k fl t0 (p + 1) = m0 212 (80 + p) := by conv => lhs; unfold tkS; rw [if_pos ⟨hpa, hbt, by dsimp only at *; omega⟩]
            exact ih (p + 1) (by omega) _ _ (hF0.up rfl) (by rw [up_na _ _ (by decide)]; exact g12) (by rw [e9]; exact hT9)
set_option maxRecDepth 4000 in
theorem l_takesW {Γ : Gm} {d : Nat} {m0 m : Mem} {Po : Int → Mem → Prop} (one l k fl P f : Nat) (c : Int) (hI : HI (m0 212)) (hl : (l : Int) < m0 212 2) (hk : (k : Int) < m0 212 2) (hP : m0 212 3 = P) (hc : m 211 22 = c) (g12 : m 212 = m0 212) (s0 : Int)
    (kont : Em Γ (d + 4) MX12_takesTo Po 95 [rv 211, iv one, iv l, iv k, iv fl, jv (tkW (m0 212) l k f c s0 P), uv, iv f, iv P] [] m) :
    ∀ (n p : Nat), p + n = P → Em Γ (d + 4) MX12_takesTo Po 111 [rv 211, iv one, iv l, iv k, iv fl, jv (tkW (m0 212) l k f c s0 p), uv, iv f, iv p] [] m := by
  intro n
  induction n with
  | zero =>
    intro p hp
    obtain rfl : P = p := by omega
    have hF9 := hI.1
    have hL3 := hI.2.1
    have hP8 := hI.2.2.1
    refine Ev.iload (q := 113) dX12_takesTo_111 rfl rfl ?_
    refine Ev.aload_n (q := 114) dX12_takesTo_113 rfl rfl ?_
    refine gR (q := 117) dX12_takesTo_114 gfX12_13 k211 r211_1 rfl rfl ?_
    refine Ev.iconst (q := 118) dX12_takesTo_117 ki_3 rfl ?_
    refine aI (q := 119) (k := 3) dX12_takesTo_118 k212 (by rfl) (by decide) rfl ?_
    refine Ev.icmp_ge (tgt := 176) (q := 122) dX12_takesTo_119 (by decide) rfl (fun h1 => ?_) (fun h1 => ?_)
    · skip
      refine Ev.goto (q := 95) dX12_takesTo_176 (by decide) ?_
      exact kont
    · skip
      rw [g12] at h1; omega
  | succ n ih =>
    intro p hp
    have hF9 := hI.1
    have hL3 := hI.2.1
    have hP8 := hI.2.2.1
    refine Ev.iload (q := 113) dX12_takesTo_111 rfl rfl ?_
    refine Ev.aload_n (q := 114) dX12_takesTo_113 rfl rfl ?_
    refine gR (q := 117) dX12_takesTo_114 gfX12_13 k211 r211_1 rfl rfl ?_
    refine Ev.iconst (q := 118) dX12_takesTo_117 ki_3 rfl ?_
    refine aI (q := 119) (k := 3) dX12_takesTo_118 k212 (by rfl) (by decide) rfl ?_
    refine Ev.icmp_ge (tgt := 176) (q := 122) dX12_takesTo_119 (by decide) rfl (fun h1 => ?_) (fun h1 => ?_)
    · skip
      rw [g12] at h1; omega
    · skip
      refine Ev.aload_n (q := 123) dX12_takesTo_122 rfl rfl ?_
      refine Ev.iload (q := 125) dX12_takesTo_123 rfl rfl ?_
      refine Ev.iload_n (q := 126) dX12_takesTo_125 rfl rfl ?_
      refine Ev.iload_n (q := 127) dX12_takesTo_126 rfl rfl ?_
      refine cV3i (q := 130) (d' := d + 3) dX12_takesTo_127 mlX12_395 moX12_isParted mvX12_isParted k211 rfl rfl rfl (Nat.le_refl _) rfl rfl rfl (p_X12_isParted p l k (by omega) (by omega) (by omega)) (fun r2 m2 e2 => ?_)
      obtain ⟨rfl, e2⟩ := e2
      obtain rfl := e2.symm
      rw [g12]
      refine Ev.if_eq (tgt := 170) (q := 133) dX12_takesTo_130 (by decide) rfl (fun h3 => ?_) (fun h3 => ?_)
      · skip
        have hpa : ¬ parted (m0 212) l k p = true := by split at h3 <;> simp_all
        refine iinc_8 (q := 173) dX12_takesTo_170 rfl rfl rfl ?_
        refine Ev.goto (q := 111) dX12_takesTo_173 (by decide) ?_
        rw [w32_of (by omega) (by omega)]
        have e9 : tkW (m0 212) l k f c s0 (p + 1) = tkW (m0 212) l k f c s0 p := by conv => lhs; unfold tkW; rw [if_neg (fun q => hpa q.1)]
        have hk9 := ih (p + 1) (by omega)
        rw [e9] at hk9
        exact hk9
      · skip
        have hpa : parted (m0 212) l k p = true := by split at h3 <;> simp_all
        refine Ev.aload_n (q := 134) dX12_takesTo_133 rfl rfl ?_
        refine gR (q := 137) dX12_takesTo_134 gfX12_13 k211 r211_1 rfl rfl ?_
        refine Ev.bipush (q := 139) dX12_takesTo_137 kb_28 rfl ?_
        refine Ev.iload (q := 141) dX12_takesTo_139 rfl rfl ?_
        refine Ev.iadd (q := 142) dX12_takesTo_141 rfl ?_
        refine aI (q := 143) (k := 28 + p) dX12_takesTo_142 k212 (by first | rfl | omega | (simp (disch := omega) only [w32_of]; omega)) (by omega) rfl ?_
        rw [g12]
        refine Ev.iload (q := 145) dX12_takesTo_143 rfl rfl ?_
        refine Ev.icmp_ne (tgt := 170) (q := 148) dX12_takesTo_145 (by decide) rfl (fun h4 => ?_) (fun h4 => ?_)
        · skip
          refine iinc_8 (q := 173) dX12_takesTo_170 rfl rfl rfl ?_
          refine Ev.goto (q := 111) dX12_takesTo_173 (by decide) ?_
          rw [w32_of (by omega) (by omega)]
          have e9 : tkW (m0 212) l k f c s0 (p + 1) = tkW (m0 212) l k f c s0 p := by conv => lhs; unfold tkW; rw [if_neg (fun q => by have := q.2; omega)]
          have hk9 := ih (p + 1) (by omega)
          rw [e9] at hk9
          exact hk9
        · skip
          refine Ev.lload (q := 150) dX12_takesTo_148 rfl rfl ?_
          refine Ev.aload_n (q := 151) dX12_takesTo_150 rfl rfl ?_
          refine gI (q := 154) dX12_takesTo_151 gfX12_221 k211 rfl rfl ?_
          rw [hc]
          refine Ev.i2l (q := 155) dX12_takesTo_154 rfl ?_
          refine Ev.aload_n (q := 156) dX12_takesTo_155 rfl rfl ?_
          refine gR (q := 159) dX12_takesTo_156 gfX12_13 k211 r211_1 rfl rfl ?_
          refine Ev.bipush (q := 161) dX12_takesTo_159 kb_52 rfl ?_
          refine Ev.iload (q := 163) dX12_takesTo_161 rfl rfl ?_
          refine Ev.iadd (q := 164) dX12_takesTo_163 rfl ?_
          refine aI (q := 165) (k := 52 + p) dX12_takesTo_164 k212 (by first | rfl | omega | (simp (disch := omega) only [w32_of]; omega)) (by omega) rfl ?_
          rw [g12]
          refine Ev.i2l (q := 166) dX12_takesTo_165 rfl ?_
          refine Ev.lmul (q := 167) dX12_takesTo_166 rfl ?_
          refine Ev.ladd (q := 168) dX12_takesTo_167 rfl ?_
          refine lstore_5 (q := 170) dX12_takesTo_168 rfl rfl rfl ?_
          refine iinc_8 (q := 173) dX12_takesTo_170 rfl rfl rfl ?_
          refine Ev.goto (q := 111) dX12_takesTo_173 (by decide) ?_
          rw [w32_of (by omega) (by omega)]
          have e9 : tkW (m0 212) l k f c s0 (p + 1) = w64 (tkW (m0 212) l k f c s0 p + w64 (c * m0 212 (52 + p))) := by conv => lhs; unfold tkW; rw [if_pos ⟨hpa, by omega⟩]
          have hk9 := ih (p + 1) (by omega)
          rw [e9] at hk9
          exact hk9
set_option maxRecDepth 4000 in
theorem l_takesL {Γ : Gm} {d : Nat} {m0 : Mem} (F : Nat) (one l k fl P : Nat) (hI : HI (m0 212)) (ho : (one : Int) < m0 212 2) (hl : (l : Int) < m0 212 2) (hk : (k : Int) < m0 212 2) (hfl : fl < 4096) (hP : m0 212 3 = P) (hFF : m0 212 1 = F) : ∀ (n h : Nat) (tt : Int) (s : Nat) (u : Bool) (c : Int) (sm : Int) (x7 : Int) (v8 : Vl) (m : Mem), pop s < n → Fr sT m0 m → m 212 = m0 212 → TMc m one (h, tt, s, u, c) → tOk2 F (h, tt, s, u, c) → Em Γ (d + 4) MX12_takesTo (fun r m' => r = tkL (m0 212) l k one n (h, tt, s, u, c) sm ∧ Fr sT m0 m') 95 [rv 211, iv one, iv l, iv k, iv fl, jv sm, uv, iv x7, v8] [] m := by
  intro n
  induction n with
  | zero => intro h tt s u c sm x7 v8 m hp; omega
  | succ n ih =>
    intro h tt s u c sm x7 v8 m hp hF0 g12 hT hok
    have hF9 := hI.1
    have hL3 := hI.2.1
    have hP8 := hI.2.2.1
    refine Ev.aload_n (q := 96) dX12_takesTo_95 rfl rfl ?_
    refine gI (q := 99) dX12_takesTo_96 gfX12_200 k211 rfl rfl ?_
    rw [hT.1.2.2.2.1]
    refine Ev.if_eq (tgt := 179) (q := 102) dX12_takesTo_99 (by decide) rfl (fun h1 => ?_) (fun h1 => ?_)
    · skip
      dsimp only at h1
      have hz : s = 0 := by omega
      refine Ev.lload (q := 181) dX12_takesTo_179 rfl rfl ?_
      refine rJ dX12_takesTo_181 rfl ?_
      refine ⟨?_, hF0⟩
      unfold tkL
      rw [tgo_zero hz]
    · skip
      dsimp only at h1
      refine Ev.aload_n (q := 103) dX12_takesTo_102 rfl rfl ?_
      refine cV0i (q := 106) (d' := d + 3) dX12_takesTo_103 mlX12_251 moX12_goes mvX12_goes k211 rfl rfl rfl (Nat.le_refl _) rfl rfl rfl (p_X12_goes one F h tt s u c hT.1 hok.1 (by rw [g12]; exact hFF) (by omega) (by rw [g12]; exact hI.law1)) (fun r2 m2 e2 => ?_)
      obtain ⟨eN, eS⟩ := e2
      rw [g12] at eN eS
      obtain ⟨t', ht'⟩ : ∃ t', tgo (m0 212 (22 + one)) (stopV (m0 212) one) (h, tt, s, u, c) = some t' := by
        cases hq : tgo (m0 212 (22 + one)) (stopV (m0 212) one) (h, tt, s, u, c) with
        | none =>
          have hz := tgo_none hok hq
          dsimp only at hz
          omega
        | some t' => exact ⟨t', rfl⟩
      obtain ⟨rfl, hT', hfr⟩ := eS t' ht'
      have hok' := tgo_ok2 hok ht'
      have hpop := tgo_pop hok ht'
      have hF1 := hF0.tr hfr
      generalize m2 = M1 at *
      have g1 : M1 212 = m0 212 := by rw [hfr.row 212 (fun _ => rfl)]; exact g12
      obtain ⟨h9, tt9, s9, u9, c9⟩ := t'
      dsimp only at hpop
      refine istore_7 (q := 108) dX12_takesTo_106 rfl rfl rfl ?_
      refine Ev.iconst (q := 109) dX12_takesTo_108 ki_0 rfl ?_
      refine istore_8 (q := 111) dX12_takesTo_109 rfl rfl rfl ?_
      refine l_takesW (m0 := m0) one l k fl P h9 c9 hI hl hk hP hT'.2 g1 sm ?_ P 0 (by omega)
      have e9 : tkL (m0 212) l k one (n + 1) (h, tt, s, u, c) sm = tkL (m0 212) l k one n (h9, tt9, s9, u9, c9) (tkW (m0 212) l k h9 c9 sm P) := by
        conv => lhs; unfold tkL
        rw [ht', hP]
        simp only [Int.toNat_natCast]
      rw [e9]
      exact ih h9 tt9 s9 u9 c9 _ _ _ M1 (by omega) hF1 g1 hT' hok'
set_option maxRecDepth 4000 in
theorem p_X12_takesTo {Γ : Gm} {d : Nat} {m : Mem} (one l k fl : Nat) (hI : HI (m 212)) (ho : (one : Int) < m 212 2) (hl : (l : Int) < m 212 2) (hk : (k : Int) < m 212 2) (hfl : litOk (m 212) one fl) : Ci Γ (d + 4) MX12_takesTo [rv 211, iv one, iv l, iv k, iv fl] m (fun r m' => r = takV (m 212) one l k fl ∧ Fr sT m m') := by
  refine Ci.of moX12_takesTo rfl rfl (fun hA hM => ?_)
  show Em Γ (d + 4) MX12_takesTo _ 0 [rv 211, iv one, iv l, iv k, iv fl, uv, uv, uv, uv] [] m
  have hF9 := hI.1
  have hL3 := hI.2.1
  have hP8 := hI.2.2.1
  have hlift := hI.lift ho
  obtain ⟨P, hP⟩ : ∃ P : Nat, m 212 3 = P := ⟨(m 212 3).toNat, by omega⟩
  obtain ⟨F, hFF⟩ : ∃ F : Nat, m 212 1 = F := ⟨(m 212 1).toNat, by omega⟩
  have hFt : (m 212 1).toNat = F := by omega
  refine Ev.lconst (q := 1) dX12_takesTo_0 kj_0 rfl ?_
  refine lstore_5 (q := 3) dX12_takesTo_1 rfl rfl rfl ?_
  refine Ev.aload_n (q := 4) dX12_takesTo_3 rfl rfl ?_
  refine Ev.iload_n (q := 5) dX12_takesTo_4 rfl rfl ?_
  refine cV1v (q := 8) (d' := d + 3) dX12_takesTo_5 mlX12_234 moX12_loads mvX12_loads k211 rfl rfl rfl (Nat.le_refl _) rfl rfl rfl (p_X12_loads one (by omega) hlift.1.1 hlift.2.1.1) (fun r1 m1 e1 => ?_)
  obtain ⟨hT, hfr⟩ := e1
  generalize m1 = M2 at *
  have g2 : M2 212 = m 212 := hfr.row 212 (fun _ => rfl)
  refine Ev.aload_n (q := 9) dX12_takesTo_8 rfl rfl ?_
  refine Ev.iload (q := 11) dX12_takesTo_9 rfl rfl ?_
  refine pI (q := 14) dX12_takesTo_11 gfX12_200 k211 rfl rfl ?_
  refine Ev.iconst (q := 15) dX12_takesTo_14 ki_0 rfl ?_
  refine istore_7 (q := 17) dX12_takesTo_15 rfl rfl rfl ?_
  have hT2 : TM (up M2 211 21 (fl : Int)) one ((m 212 (60 + one)).toNat, tkS (m 212) l k fl (m 212 (63 + one)) 0, fl, decide (m 212 (69 + one) = 1), 0) := by
    unfold TM
    simp (disch := omega) only [up_k, up_eq]
    refine ⟨hT.1, hT.2.1, hT.2.2.1, ?_, hT.2.2.2.2⟩
    first | trivial | rfl
  refine l_takesS (m0 := m) one l k fl P hI ho hl hk (hfl.lt hI) hP _ _ _ _ 0 (fun M3 v8 hF3 g3 hT3 => ?_) P 0 (by omega) uv _ (hfr.up rfl) (by rw [up_na _ _ (by decide)]; exact g2) hT2
  have hkk := l_takesL (Γ := Γ) (d := d) (m0 := m) F one l k fl P hI ho hl hk (hfl.lt hI) hP hFF 13 (m 212 (60 + one)).toNat (tkS (m 212) l k fl (m 212 (63 + one)) P) fl (decide (m 212 (69 + one) = 1)) (M3 211 22) 0 P v8 M3 (by have := pop_le fl; omega) hF3 g3 ⟨hT3, rfl⟩ (by have := HI.liftOk hI ho hfl.1 hfl.2 (tt := tkS (m 212) l k fl (m 212 (63 + one)) P) (u := decide (m 212 (69 + one) = 1)) (c := M3 211 22); rw [hFt] at this; exact this)
  unfold takV
  rw [hP, Int.toNat_natCast, tkL_came _ _ _ _ _ _ _ (M3 211 22)]
  exact hkk
