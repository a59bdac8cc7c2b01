/-! ===== the reference: all ways to part ===== -/
def hms (g : Nat → Int) (l k : Nat) : Nat → Nat
  | 0 => 0
  | n + 1 => if parted g l k n = true then hms g l k n ||| 2 ^ (g (28 + n)).toNat else hms g l k n
def prt (val : Nat → Int) (hs : Nat) : Nat → Nat → Int → Int → Int × Int
  | 0, _, ls, fs => (ls, fs)
  | n + 1, s, ls, fs => if dif s hs ≠ 0 then prt val hs n (s + 1) ls fs else if val s < ls then prt val hs n (s + 1) (val s) s else prt val hs n (s + 1) ls fs
def parV (g : Nat → Int) (l k : Nat) (s : Nat) : Int := w64 (takV g l l k s + takV g k l k (dif (hms g l k (g 3).toNat) s))
def prtV (g : Nat → Int) (l k : Nat) (fs : Int) : Int × Int := prt (parV g l k) (hms g l k (g 3).toNat) (hms g l k (g 3).toNat + 1) 0 1000000000000000 fs
theorem hms_ok {g : Nat → Int} (hI : HI g) {l k : Nat} : ∀ n : Nat, (n : Int) ≤ g 3 → litOk g l (hms g l k n) := by
  intro n
  induction n with
  | zero => intro _; exact ⟨Nat.two_pow_pos _, Nat.zero_testBit _⟩
  | succ n ih =>
    intro hn
    have h1 := ih (by omega)
    have hp := hI.pers (p := n) (by omega)
    have hF := hI.1
    unfold hms
    split
    · rename_i hq
      have hq' : ¬ g (28 + n) = g (60 + l) := by unfold parted at hq; exact (of_decide_eq_true hq).2.1
      have h60 : g (72 + n) = g (60 + l) := by unfold parted at hq; exact (of_decide_eq_true hq).1
      refine ⟨Nat.or_lt_two_pow h1.1 (two_lt (by omega)), ?_⟩
      rw [Nat.testBit_or, h1.2, Nat.testBit_two_pow]
      simp
      omega
    · exact h1
theorem litOk_dif {g : Nat → Int} {l a b : Nat} (h : litOk g l a) : litOk g l (dif a b) := ⟨Nat.lt_of_le_of_lt (dif_le _ _) h.1, by rw [dif_bit, h.2]; rfl⟩
theorem litOk_at {g : Nat → Int} {l k a : Nat} (h : litOk g l a) (he : g (60 + l) = g (60 + k)) : litOk g k a := ⟨h.1, by rw [← he]; exact h.2⟩
def sPt (a k : Nat) : Bool := sT a k || (a == 211 && k == 28)
theorem sPt_T {a k : Nat} (h : sPt a k = false) : sT a k = false := by unfold sPt at h; simp at h; exact h.1
set_option maxRecDepth 4000 in
theorem l_homes {Γ : Gm} {d : Nat} {m : Mem} {Po : Int → Mem → Prop} (l k P : Nat) (hI : HI (m 212)) (hl : (l : Int) < m 212 2) (hk : (k : Int) < m 212 2) (he : m 212 (60 + l) = m 212 (60 + k)) (hP : m 212 3 = P) (ls : Int)
    (kont : Em Γ (d + 5) MX12_partsBy Po 53 [rv 211, iv l, iv k, iv (hms (m 212) l k P), jv ls, uv, iv P, uv, uv] [] m) :
    ∀ (n p : Nat), p + n = P → Em Γ (d + 5) MX12_partsBy Po 10 [rv 211, iv l, iv k, iv (hms (m 212) l k p), jv ls, uv, iv p, uv, uv] [] m := by
  intro n
  induction n with
  | zero =>
    intro p hp
    obtain rfl : P = p := by omega
    have hF9 := hI.1
    have hL3 := hI.2.1
    have hP8 := hI.2.2.1
    refine Ev.iload (q := 12) dX12_partsBy_10 rfl rfl ?_
    refine Ev.aload_n (q := 13) dX12_partsBy_12 rfl rfl ?_
    refine gR (q := 16) dX12_partsBy_13 gfX12_13 k211 r211_1 rfl rfl ?_
    refine Ev.iconst (q := 17) dX12_partsBy_16 ki_3 rfl ?_
    refine aI (q := 18) (k := 3) dX12_partsBy_17 k212 (by rfl) (by decide) rfl ?_
    refine Ev.icmp_ge (tgt := 53) (q := 21) dX12_partsBy_18 (by decide) rfl (fun h1 => ?_) (fun h1 => ?_)
    · skip
      exact kont
    · skip
      omega
  | succ n ih =>
    intro p hp
    have hF9 := hI.1
    have hL3 := hI.2.1
    have hP8 := hI.2.2.1
    refine Ev.iload (q := 12) dX12_partsBy_10 rfl rfl ?_
    refine Ev.aload_n (q := 13) dX12_partsBy_12 rfl rfl ?_
    refine gR (q := 16) dX12_partsBy_13 gfX12_13 k211 r211_1 rfl rfl ?_
    refine Ev.iconst (q := 17) dX12_partsBy_16 ki_3 rfl ?_
    refine aI (q := 18) (k := 3) dX12_partsBy_17 k212 (by rfl) (by decide) rfl ?_
    refine Ev.icmp_ge (tgt := 53) (q := 21) dX12_partsBy_18 (by decide) rfl (fun h1 => ?_) (fun h1 => ?_)
    · skip
      omega
    · skip
      refine Ev.aload_n (q := 22) dX12_partsBy_21 rfl rfl ?_
      refine Ev.iload (q := 24) dX12_partsBy_22 rfl rfl ?_
      refine Ev.iload_n (q := 25) dX12_partsBy_24 rfl rfl ?_
      refine Ev.iload_n (q := 26) dX12_partsBy_25 rfl rfl ?_
      refine cV3i (q := 29) (d' := d + 4) dX12_partsBy_26 mlX12_395 moX12_isParted mvX12_isParted k211 rfl rfl rfl (Nat.le_refl _) rfl rfl rfl (p_X12_isParted p l k (by omega) (by omega) (by omega)) (fun r2 m2 e2 => ?_)
      obtain ⟨rfl, e2⟩ := e2
      obtain rfl := e2.symm
      refine Ev.if_eq (tgt := 47) (q := 32) dX12_partsBy_29 (by decide) rfl (fun h3 => ?_) (fun h3 => ?_)
      · skip
        have hpa : ¬ parted (m 212) l k p = true := by split at h3 <;> simp_all
        refine iinc_6 (q := 50) dX12_partsBy_47 rfl rfl rfl ?_
        refine Ev.goto (q := 10) dX12_partsBy_50 (by decide) ?_
        rw [w32_of (by omega) (by omega)]
        have hk9 := ih (p + 1) (by omega)
        rw [show hms (m 212) l k (p + 1) = hms (m 212) l k p by conv => lhs; unfold hms; rw [if_neg hpa]] at hk9
        exact hk9
      · skip
        have hpa : parted (m 212) l k p = true := by split at h3 <;> simp_all
        have hpers := hI.pers (p := p) (by omega)
        obtain ⟨hm, hhm⟩ : ∃ hm : Nat, m 212 (28 + p) = hm := ⟨(m 212 (28 + p)).toNat, by omega⟩
        have h12 := (hms_ok (l := l) (k := k) hI p (by omega)).lt hI
        refine Ev.iload_n (q := 33) dX12_partsBy_32 rfl rfl ?_
        refine Ev.iconst (q := 34) dX12_partsBy_33 ki_1 rfl ?_
        refine Ev.aload_n (q := 35) dX12_partsBy_34 rfl rfl ?_
        refine gR (q := 38) dX12_partsBy_35 gfX12_13 k211 r211_1 rfl rfl ?_
        refine Ev.bipush (q := 40) dX12_partsBy_38 kb_28 rfl ?_
        refine Ev.iload (q := 42) dX12_partsBy_40 rfl rfl ?_
        refine Ev.iadd (q := 43) dX12_partsBy_42 rfl ?_
        refine aI (q := 44) (k := 28 + p) dX12_partsBy_43 k212 (by first | rfl | omega | (simp (disch := omega) only [w32_of]; omega)) (by omega) rfl ?_
        rw [hhm]
        refine Ev.ishl (q := 45) dX12_partsBy_44 rfl ?_
        refine Ev.ior (q := 46) dX12_partsBy_45 rfl ?_
        rw [ishl_1 hm (by omega), ior_n (k := 12) h12 (two_lt (by omega)) (by decide)]
        refine istore_n_3 (q := 47) dX12_partsBy_46 rfl rfl rfl ?_
        refine iinc_6 (q := 50) dX12_partsBy_47 rfl rfl rfl ?_
        refine Ev.goto (q := 10) dX12_partsBy_50 (by decide) ?_
        rw [w32_of (by omega) (by omega)]
        have hk9 := ih (p + 1) (by omega)
        rw [show hms (m 212) l k (p + 1) = hms (m 212) l k p ||| 2 ^ hm by conv => lhs; unfold hms; rw [if_pos hpa, hhm, Int.toNat_natCast]] at hk9
        exact hk9
set_option maxRecDepth 4000 in
theorem l_parts {Γ : Gm} {d : Nat} {m0 : Mem} (l k P : Nat) (hI : HI (m0 212)) (hl : (l : Int) < m0 212 2) (hk : (k : Int) < m0 212 2) (he : m0 212 (60 + l) = m0 212 (60 + k)) (hP : m0 212 3 = P) (hs : Nat) (hhs : hs = hms (m0 212) l k (m0 212 3).toNat) (hok : litOk (m0 212) l hs) (hs12 : hs < 4096) : ∀ (n s : Nat) (ls fs : Int) (v7 v8 : Vl) (m : Mem), s + n = hs + 1 → Fr sPt m0 m → m 212 = m0 212 → m 211 28 = fs → Em Γ (d + 5) MX12_partsBy (fun r m' => r = (prt (parV (m0 212) l k) hs n s ls fs).1 ∧ m' 211 28 = (prt (parV (m0 212) l k) hs n s ls fs).2 ∧ Fr sPt m0 m') 56 [rv 211, iv l, iv k, iv hs, jv ls, uv, iv s, v7, v8] [] m := by
  intro n
  induction n with
  | zero =>
    intro s ls fs v7 v8 m hsn hF0 g12 hfs
    refine Ev.iload (q := 58) dX12_partsBy_56 rfl rfl ?_
    refine Ev.iload_n (q := 59) dX12_partsBy_58 rfl rfl ?_
    refine Ev.icmp_gt (tgt := 126) (q := 62) dX12_partsBy_59 (by decide) rfl (fun h1 => ?_) (fun h1 => ?_)
    · skip
      refine Ev.lload (q := 128) dX12_partsBy_126 rfl rfl ?_
      refine rJ dX12_partsBy_128 rfl ?_
      exact ⟨rfl, hfs, hF0⟩
    · skip
      omega
  | succ n ih =>
    intro s ls fs v7 v8 m hsn hF0 g12 hfs
    refine Ev.iload (q := 58) dX12_partsBy_56 rfl rfl ?_
    refine Ev.iload_n (q := 59) dX12_partsBy_58 rfl rfl ?_
    refine Ev.icmp_gt (tgt := 126) (q := 62) dX12_partsBy_59 (by decide) rfl (fun h1 => ?_) (fun h1 => ?_)
    · skip
      omega
    · skip
      refine Ev.iload (q := 64) dX12_partsBy_62 rfl rfl ?_
      refine Ev.iload_n (q := 65) dX12_partsBy_64 rfl rfl ?_
      refine Ev.iconst (q := 66) dX12_partsBy_65 ki_m1 rfl ?_
      refine Ev.ixor (q := 67) dX12_partsBy_66 rfl ?_
      refine Ev.iand (q := 68) dX12_partsBy_67 rfl ?_
      rw [iandn_n (by omega)]
      refine Ev.if_eq (tgt := 74) (q := 71) dX12_partsBy_68 (by decide) rfl (fun h2 => ?_) (fun h2 => ?_)
      · skip
        have hd : dif s hs = 0 := by omega
        have hsok := litOk_sub hok hd (by omega)
        refine Ev.aload_n (q := 75) dX12_partsBy_74 rfl rfl ?_
        refine Ev.iload_n (q := 76) dX12_partsBy_75 rfl rfl ?_
        refine Ev.iload_n (q := 77) dX12_partsBy_76 rfl rfl ?_
        refine Ev.iload_n (q := 78) dX12_partsBy_77 rfl rfl ?_
        refine Ev.iload (q := 80) dX12_partsBy_78 rfl rfl ?_
        refine cV4j (q := 83) (d' := d + 4) dX12_partsBy_80 mlX12_399 moX12_takesTo mvX12_takesTo k211 rfl rfl rfl (Nat.le_refl _) rfl rfl rfl (p_X12_takesTo l l k s (by rw [g12]; exact hI) (by rw [g12]; exact hl) (by rw [g12]; exact hl) (by rw [g12]; exact hk) (by rw [g12]; exact hsok)) (fun r3 m3 e3 => ?_)
        obtain ⟨rfl, hfr⟩ := e3
        rw [g12]
        have hF1 := hF0.tr (hfr.mono (fun a k q => sPt_T q))
        generalize m3 = M1 at *
        have g1 : M1 212 = m0 212 := by rw [hfr.row 212 (fun _ => rfl)]; exact g12
        have hfs1 : M1 211 28 = fs := by rw [hfr 211 28 rfl]; exact hfs
        refine Ev.aload_n (q := 84) dX12_partsBy_83 rfl rfl ?_
        refine Ev.iload_n (q := 85) dX12_partsBy_84 rfl rfl ?_
        refine Ev.iload_n (q := 86) dX12_partsBy_85 rfl rfl ?_
        refine Ev.iload_n (q := 87) dX12_partsBy_86 rfl rfl ?_
        refine Ev.iload_n (q := 88) dX12_partsBy_87 rfl rfl ?_
        refine Ev.iload (q := 90) dX12_partsBy_88 rfl rfl ?_
        refine Ev.iconst (q := 91) dX12_partsBy_90 ki_m1 rfl ?_
        refine Ev.ixor (q := 92) dX12_partsBy_91 rfl ?_
        refine Ev.iand (q := 93) dX12_partsBy_92 rfl ?_
        rw [iandn_n (by omega)]
        refine cV4j (q := 96) (d' := d + 4) dX12_partsBy_93 mlX12_399 moX12_takesTo mvX12_takesTo k211 rfl rfl rfl (Nat.le_refl _) rfl rfl rfl (p_X12_takesTo k l k (dif hs s) (by rw [g1]; exact hI) (by rw [g1]; exact hk) (by rw [g1]; exact hl) (by rw [g1]; exact hk) (by rw [g1]; exact litOk_at (litOk_dif hok) he)) (fun r4 m4 e4 => ?_)
        obtain ⟨rfl, hfr2⟩ := e4
        rw [g1]
        have hF2 := hF1.tr (hfr2.mono (fun a k q => sPt_T q))
        generalize m4 = M2 at *
        have g2 : M2 212 = m0 212 := by rw [hfr2.row 212 (fun _ => rfl)]; exact g1
        have hfs2 : M2 211 28 = fs := by rw [hfr2 211 28 rfl]; exact hfs1
        refine Ev.ladd (q := 97) dX12_partsBy_96 rfl ?_
        rw [show w64 (takV (m0 212) l l k s + takV (m0 212) k l k (dif hs s)) = parV (m0 212) l k s by unfold parV; rw [← hhs]]
        refine lstore_7 (q := 99) dX12_partsBy_97 rfl rfl rfl ?_
        refine Ev.lload (q := 101) dX12_partsBy_99 rfl rfl ?_
        refine Ev.lload (q := 103) dX12_partsBy_101 rfl rfl ?_
        refine Em.ok (fun hL9 hS9 hM9 => ?_)
        have q1 := okV_j (okA_0 hS9)
        have q2 := okV_j (okA_1 hS9)
        refine Ev.lcmp (q := 104) dX12_partsBy_103 rfl ?_
        refine Ev.if_lt (tgt := 110) (q := 107) dX12_partsBy_104 (by decide) rfl (fun h5 => ?_) (fun h5 => ?_)
        · skip
          rw [lcmp_lt q2 q1] at h5
          refine Ev.lload (q := 112) dX12_partsBy_110 rfl rfl ?_
          refine lstore_4 (q := 114) dX12_partsBy_112 rfl rfl rfl ?_
          refine Ev.aload_n (q := 115) dX12_partsBy_114 rfl rfl ?_
          refine Ev.iload (q := 117) dX12_partsBy_115 rfl rfl ?_
          refine pI (q := 120) dX12_partsBy_117 gfX12_403 k211 rfl rfl ?_
          refine iinc_6 (q := 123) dX12_partsBy_120 rfl rfl rfl ?_
          refine Ev.goto (q := 56) dX12_partsBy_123 (by decide) ?_
          rw [w32_of (by omega) (by omega)]
          rw [show prt (parV (m0 212) l k) hs (n + 1) s ls fs = prt (parV (m0 212) l k) hs n (s + 1) (parV (m0 212) l k s) (s : Int) by conv => lhs; unfold prt; rw [if_neg (by omega), if_pos (by assumption)]]
          exact ih (s + 1) (parV (m0 212) l k s) (s : Int) (jv (parV (m0 212) l k s)) uv _ (by omega) (hF2.up rfl) (by rw [up_na _ _ (by decide)]; exact g2) (up_eq _ _ _ _)
        · skip
          rw [lcmp_lt q2 q1] at h5
          refine Ev.goto (q := 120) dX12_partsBy_107 (by decide) ?_
          refine iinc_6 (q := 123) dX12_partsBy_120 rfl rfl rfl ?_
          refine Ev.goto (q := 56) dX12_partsBy_123 (by decide) ?_
          rw [w32_of (by omega) (by omega)]
          rw [show prt (parV (m0 212) l k) hs (n + 1) s ls fs = prt (parV (m0 212) l k) hs n (s + 1) ls fs by conv => lhs; unfold prt; rw [if_neg (by omega), if_neg (by assumption)]]
          exact ih (s + 1) ls fs (jv (parV (m0 212) l k s)) uv _ (by omega) hF2 g2 hfs2
      · skip
        have hd : ¬ dif s hs = 0 := by omega
        refine Ev.goto (q := 120) dX12_partsBy_71 (by decide) ?_
        refine iinc_6 (q := 123) dX12_partsBy_120 rfl rfl rfl ?_
        refine Ev.goto (q := 56) dX12_partsBy_123 (by decide) ?_
        rw [w32_of (by omega) (by omega)]
        rw [show prt (parV (m0 212) l k) hs (n + 1) s ls fs = prt (parV (m0 212) l k) hs n (s + 1) ls fs by conv => lhs; unfold prt; rw [if_pos (by omega)]]
        exact ih (s + 1) ls fs v7 v8 _ (by omega) hF0 g12 hfs
set_option maxRecDepth 4000 in
theorem p_X12_partsBy {Γ : Gm} {d : Nat} {m : Mem} (l k : Nat) (hI : HI (m 212)) (hl : (l : Int) < m 212 2) (hk : (k : Int) < m 212 2) (he : m 212 (60 + l) = m 212 (60 + k)) : Ci Γ (d + 5) MX12_partsBy [rv 211, iv l, iv k] m (fun r m' => r = (prtV (m 212) l k (m 211 28)).1 ∧ m' 211 28 = (prtV (m 212) l k (m 211 28)).2 ∧ Fr sPt m m') := by
  refine Ci.of moX12_partsBy rfl rfl (fun hA hM => ?_)
  show Em Γ (d + 5) MX12_partsBy _ 0 [rv 211, iv l, iv k, uv, uv, uv, uv, uv, uv] [] m
  have hF9 := hI.1
  have hL3 := hI.2.1
  have hP8 := hI.2.2.1
  obtain ⟨P, hP⟩ : ∃ P : Nat, m 212 3 = P := ⟨(m 212 3).toNat, by omega⟩
  have hok := hms_ok (l := l) (k := k) hI P (by omega)
  refine Ev.iconst (q := 1) dX12_partsBy_0 ki_0 rfl ?_
  refine istore_n_3 (q := 2) dX12_partsBy_1 rfl rfl rfl ?_
  refine Ev.ldc2 (q := 5) dX12_partsBy_2 klX12_376 klvX12_376 rfl ?_
  refine lstore_4 (q := 7) dX12_partsBy_5 rfl rfl rfl ?_
  refine Ev.iconst (q := 8) dX12_partsBy_7 ki_0 rfl ?_
  refine istore_6 (q := 10) dX12_partsBy_8 rfl rfl rfl ?_
  refine l_homes l k P hI hl hk he hP _ ?_ P 0 (by omega)
  refine Ev.iconst (q := 54) dX12_partsBy_53 ki_0 rfl ?_
  refine istore_6 (q := 56) dX12_partsBy_54 rfl rfl rfl ?_
  unfold prtV
  rw [hP, Int.toNat_natCast]
  exact l_parts (m0 := m) l k P hI hl hk he hP (hms (m 212) l k P) (by rw [hP, Int.toNat_natCast]) hok (hok.lt hI) (hms (m 212) l k P + 1) 0 1000000000000000 (m 211 28) uv uv m (by omega) (Fr.rf _ _) rfl rfl
