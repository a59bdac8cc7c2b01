/-! ===== the reference: lights to keep, to turn ===== -/
def kep (val : Nat → Int) (whole : Nat) : Nat → Nat → Nat → Int → Nat
  | 0, _, b, _ => b
  | n + 1, s, b, ls => if dif s whole ≠ 0 then kep val whole n (s + 1) b ls else
      if ls < val s ∨ (val s = ls ∧ pop b ≤ pop s) then kep val whole n (s + 1) b ls else kep val whole n (s + 1) s (val s)
def keptV (g : Nat → Int) (l : Nat) (fair : Bool) : Nat := kep (fun s => valV g l s fair) (litV g l) (litV g l + 1) 0 0 1000000000000000
theorem dif_sub {s w : Nat} (h : dif s w = 0) {i : Nat} (hb : s.testBit i = true) : w.testBit i = true := by
  have := congrArg (fun n => Nat.testBit n i) h
  simp only [dif_bit, hb, Nat.zero_testBit] at this
  cases hw : w.testBit i
  · rw [hw] at this; cases this
  · rfl
theorem litOk_sub {g : Nat → Int} {l s w : Nat} (h : litOk g l w) (hd : dif s w = 0) (hs : s ≤ w) : litOk g l s := by
  refine ⟨Nat.lt_of_le_of_lt hs h.1, ?_⟩
  cases hb : s.testBit (g (60 + l)).toNat
  · rfl
  · have := dif_sub hd hb
    rw [h.2] at this
    cases this
theorem HI.F12 {g : Nat → Int} (h : HI g) : (g 1).toNat ≤ 12 := by have := h.1; omega
theorem litOk.lt {g : Nat → Int} (hI : HI g) {l s : Nat} (h : litOk g l s) : s < 4096 := lt4096 h.1 hI.F12
set_option maxRecDepth 4000 in
theorem l_keptBy_true {Γ : Gm} {d : Nat} {m0 : Mem} (l w : Nat) (hI : HI (m0 212)) (hl : (l : Int) < m0 212 2) (hw : litOk (m0 212) l w) (hw12 : w < 4096) : ∀ (n s b : Nat) (ls : Int) (v8 v9 : Vl) (m : Mem), s + n = w + 1 → b ≤ w → Fr sBe m0 m → m 212 = m0 212 → Em Γ (d + 7) MX12_keptBy (fun r m' => r = (kep (fun s => valV (m0 212) l s true) w n s b ls : Int) ∧ Fr sBe m0 m') 21 [rv 211, iv l, iv 1, iv w, iv b, jv ls, uv, iv s, v8, v9] [] m := by
  intro n
  induction n with
  | zero =>
    intro s b ls v8 v9 m hs hb hF0 g12
    refine Ev.iload (q := 23) dX12_keptBy_21 rfl rfl ?_
    refine Ev.iload_n (q := 24) dX12_keptBy_23 rfl rfl ?_
    refine Ev.icmp_gt (tgt := 95) (q := 27) dX12_keptBy_24 (by decide) rfl (fun h1 => ?_) (fun h1 => ?_)
    · skip
      refine Ev.iload (q := 97) dX12_keptBy_95 rfl rfl ?_
      refine rI dX12_keptBy_97 rfl ?_
      exact ⟨rfl, hF0⟩
    · skip
      omega
  | succ n ih =>
    intro s b ls v8 v9 m hs hb hF0 g12
    refine Ev.iload (q := 23) dX12_keptBy_21 rfl rfl ?_
    refine Ev.iload_n (q := 24) dX12_keptBy_23 rfl rfl ?_
    refine Ev.icmp_gt (tgt := 95) (q := 27) dX12_keptBy_24 (by decide) rfl (fun h1 => ?_) (fun h1 => ?_)
    · skip
      omega
    · skip
      refine Ev.iload (q := 29) dX12_keptBy_27 rfl rfl ?_
      refine Ev.iload_n (q := 30) dX12_keptBy_29 rfl rfl ?_
      refine Ev.iconst (q := 31) dX12_keptBy_30 ki_m1 rfl ?_
      refine Ev.ixor (q := 32) dX12_keptBy_31 rfl ?_
      refine Ev.iand (q := 33) dX12_keptBy_32 rfl ?_
      rw [iandn_n (by omega)]
      refine Ev.if_eq (tgt := 39) (q := 36) dX12_keptBy_33 (by decide) rfl (fun h2 => ?_) (fun h2 => ?_)
      · skip
        have hd : dif s w = 0 := by omega
        refine Ev.aload_n (q := 40) dX12_keptBy_39 rfl rfl ?_
        refine Ev.iload_n (q := 41) dX12_keptBy_40 rfl rfl ?_
        refine Ev.iload (q := 43) dX12_keptBy_41 rfl rfl ?_
        refine Ev.iload_n (q := 44) dX12_keptBy_43 rfl rfl ?_
        refine cV3j (q := 47) (d' := d + 6) dX12_keptBy_44 mlX12_378 moX12_valueBy mvX12_valueBy k211 rfl rfl rfl (Nat.le_refl _) rfl rfl rfl (p_X12_valueBy_true l s (by rw [g12]; exact hI) (by rw [g12]; exact hl) (by rw [g12]; exact litOk_sub hw hd (by omega))) (fun r3 m3 e3 => ?_)
        obtain ⟨rfl, hfr⟩ := e3
        rw [g12]
        have hF2 := hF0.tr hfr
        generalize m3 = M2 at *
        have g2 : M2 212 = m0 212 := by rw [hfr.row 212 (fun _ => rfl)]; exact g12
        refine lstore_8 (q := 49) dX12_keptBy_47 rfl rfl rfl ?_
        refine Ev.lload (q := 51) dX12_keptBy_49 rfl rfl ?_
        refine Ev.lload (q := 53) dX12_keptBy_51 rfl rfl ?_
        refine Em.ok (fun hL9 hS9 hM9 => ?_)
        have q1 := okV_j (okA_0 hS9)
        have q2 := okV_j (okA_1 hS9)
        refine Ev.lcmp (q := 54) dX12_keptBy_53 rfl ?_
        refine Ev.if_gt (tgt := 89) (q := 57) dX12_keptBy_54 (by decide) rfl (fun h4 => ?_) (fun h4 => ?_)
        · skip
          rw [lcmp_gt q2 q1] at h4
          refine iinc_7 (q := 92) dX12_keptBy_89 rfl rfl rfl ?_
          refine Ev.goto (q := 21) dX12_keptBy_92 (by decide) ?_
          rw [w32_of (by omega) (by omega)]
          have hk := ih (s + 1) b ls (jv (valV (m0 212) l s true)) uv _ (by omega) (by omega) hF2 g2
          rw [show kep (fun s => valV (m0 212) l s true) w (n + 1) s b ls = kep (fun s => valV (m0 212) l s true) w n (s + 1) b ls by conv => lhs; unfold kep; rw [if_neg (by omega), if_pos (by omega)]] at ⊢
          exact hk
        · skip
          rw [lcmp_gt q2 q1] at h4
          refine Ev.lload (q := 59) dX12_keptBy_57 rfl rfl ?_
          refine Ev.lload (q := 61) dX12_keptBy_59 rfl rfl ?_
          refine Em.ok (fun hL9 hS9 hM9 => ?_)
          have q3 := okV_j (okA_0 hS9)
          have q4 := okV_j (okA_1 hS9)
          refine Ev.lcmp (q := 62) dX12_keptBy_61 rfl ?_
          refine Ev.if_ne (tgt := 81) (q := 65) dX12_keptBy_62 (by decide) rfl (fun h5 => ?_) (fun h5 => ?_)
          · skip
            rw [lcmp_z q4 q3] at h5
            refine Ev.iload (q := 83) dX12_keptBy_81 rfl rfl ?_
            refine istore_4 (q := 85) dX12_keptBy_83 rfl rfl rfl ?_
            refine Ev.lload (q := 87) dX12_keptBy_85 rfl rfl ?_
            refine lstore_5 (q := 89) dX12_keptBy_87 rfl rfl rfl ?_
            refine iinc_7 (q := 92) dX12_keptBy_89 rfl rfl rfl ?_
            refine Ev.goto (q := 21) dX12_keptBy_92 (by decide) ?_
            rw [w32_of (by omega) (by omega)]
            have hk := ih (s + 1) s (valV (m0 212) l s true) (jv (valV (m0 212) l s true)) uv _ (by omega) (by omega) hF2 g2
            rw [show kep (fun s => valV (m0 212) l s true) w (n + 1) s b ls = kep (fun s => valV (m0 212) l s true) w n (s + 1) s (valV (m0 212) l s true) by conv => lhs; unfold kep; rw [if_neg (by omega), if_neg (by omega)]] at ⊢
            exact hk
          · skip
            rw [lcmp_z q4 q3] at h5
            refine Ev.iload (q := 67) dX12_keptBy_65 rfl rfl ?_
            refine cS1i (q := 70) (d' := d + 6) dX12_keptBy_67 mlX12_224 moX12_bitsOf msX12_bitsOf rfl rfl (Nat.le_refl _) rfl rfl rfl (p_X12_bitsOf s (Nat.lt_of_le_of_lt (by omega) (hw.lt hI))) (fun r6 m6 e6 => ?_)
            obtain ⟨rfl, e6⟩ := e6
            obtain rfl := e6.symm
            refine Ev.iload (q := 72) dX12_keptBy_70 rfl rfl ?_
            refine cS1i (q := 75) (d' := d + 6) dX12_keptBy_72 mlX12_224 moX12_bitsOf msX12_bitsOf rfl rfl (Nat.le_refl _) rfl rfl rfl (p_X12_bitsOf b (Nat.lt_of_le_of_lt (by omega) (hw.lt hI))) (fun r7 m7 e7 => ?_)
            obtain ⟨rfl, e7⟩ := e7
            obtain rfl := e7.symm
            refine Ev.icmp_lt (tgt := 81) (q := 78) dX12_keptBy_75 (by decide) rfl (fun h8 => ?_) (fun h8 => ?_)
            · skip
              refine Ev.iload (q := 83) dX12_keptBy_81 rfl rfl ?_
              refine istore_4 (q := 85) dX12_keptBy_83 rfl rfl rfl ?_
              refine Ev.lload (q := 87) dX12_keptBy_85 rfl rfl ?_
              refine lstore_5 (q := 89) dX12_keptBy_87 rfl rfl rfl ?_
              refine iinc_7 (q := 92) dX12_keptBy_89 rfl rfl rfl ?_
              refine Ev.goto (q := 21) dX12_keptBy_92 (by decide) ?_
              rw [w32_of (by omega) (by omega)]
              have hk := ih (s + 1) s (valV (m0 212) l s true) (jv (valV (m0 212) l s true)) uv _ (by omega) (by omega) hF2 g2
              rw [show kep (fun s => valV (m0 212) l s true) w (n + 1) s b ls = kep (fun s => valV (m0 212) l s true) w n (s + 1) s (valV (m0 212) l s true) by conv => lhs; unfold kep; rw [if_neg (by omega), if_neg (by omega)]] at ⊢
              exact hk
            · skip
              refine Ev.goto (q := 89) dX12_keptBy_78 (by decide) ?_
              refine iinc_7 (q := 92) dX12_keptBy_89 rfl rfl rfl ?_
              refine Ev.goto (q := 21) dX12_keptBy_92 (by decide) ?_
              rw [w32_of (by omega) (by omega)]
              have hk := ih (s + 1) b ls (jv (valV (m0 212) l s true)) uv _ (by omega) (by omega) hF2 g2
              rw [show kep (fun s => valV (m0 212) l s true) w (n + 1) s b ls = kep (fun s => valV (m0 212) l s true) w n (s + 1) b ls by conv => lhs; unfold kep; rw [if_neg (by omega), if_pos (by omega)]] at ⊢
              exact hk
      · skip
        have hd : ¬ dif s w = 0 := by omega
        refine Ev.goto (q := 89) dX12_keptBy_36 (by decide) ?_
        refine iinc_7 (q := 92) dX12_keptBy_89 rfl rfl rfl ?_
        refine Ev.goto (q := 21) dX12_keptBy_92 (by decide) ?_
        rw [w32_of (by omega) (by omega)]
        have hk := ih (s + 1) b ls v8 v9 _ (by omega) (by omega) hF0 g12
        rw [show kep (fun s => valV (m0 212) l s true) w (n + 1) s b ls = kep (fun s => valV (m0 212) l s true) w n (s + 1) b ls by conv => lhs; unfold kep; rw [if_pos (by omega)]] at ⊢
        exact hk
set_option maxRecDepth 4000 in
theorem p_X12_keptBy_true {Γ : Gm} {d : Nat} {m : Mem} (l : Nat) (hI : HI (m 212)) (hl : (l : Int) < m 212 2) : Ci Γ (d + 7) MX12_keptBy [rv 211, iv l, iv 1] m (fun r m' => r = (keptV (m 212) l true : Int) ∧ Fr sBe m m') := by
  refine Ci.of moX12_keptBy rfl rfl (fun hA hM => ?_)
  show Em Γ (d + 7) MX12_keptBy _ 0 [rv 211, iv l, iv 1, uv, uv, uv, uv, uv, uv, uv] [] m
  have hL3 := hI.2.1
  have hlift := hI.lift hl
  have hlok := hI.litOk hl
  have e66 : m 212 (66 + l) = ((litV (m 212) l : Nat) : Int) := by unfold litV; have := hlift.2.1.1; omega
  refine Ev.aload_n (q := 1) dX12_keptBy_0 rfl rfl ?_
  refine gR (q := 4) dX12_keptBy_1 gfX12_13 k211 r211_1 rfl rfl ?_
  refine Ev.bipush (q := 6) dX12_keptBy_4 kb_66 rfl ?_
  refine Ev.iload_n (q := 7) dX12_keptBy_6 rfl rfl ?_
  refine Ev.iadd (q := 8) dX12_keptBy_7 rfl ?_
  refine aI (q := 9) (k := 66 + l) dX12_keptBy_8 k212 (by first | rfl | omega | (simp (disch := omega) only [w32_of]; omega)) (by omega) rfl ?_
  rw [e66]
  refine istore_n_3 (q := 10) dX12_keptBy_9 rfl rfl rfl ?_
  refine Ev.iconst (q := 11) dX12_keptBy_10 ki_0 rfl ?_
  refine istore_4 (q := 13) dX12_keptBy_11 rfl rfl rfl ?_
  refine Ev.ldc2 (q := 16) dX12_keptBy_13 klX12_376 klvX12_376 rfl ?_
  refine lstore_5 (q := 18) dX12_keptBy_16 rfl rfl rfl ?_
  refine Ev.iconst (q := 19) dX12_keptBy_18 ki_0 rfl ?_
  refine istore_7 (q := 21) dX12_keptBy_19 rfl rfl rfl ?_
  exact l_keptBy_true l (litV (m 212) l) hI hl hlok (hlok.lt hI) (litV (m 212) l + 1) 0 0 1000000000000000 uv uv m (by omega) (by omega) (Fr.rf _ _) rfl
set_option maxRecDepth 4000 in
theorem l_keptBy_false {Γ : Gm} {d : Nat} {m0 : Mem} (l w : Nat) (hI : HI (m0 212)) (hl : (l : Int) < m0 212 2) (hw : litOk (m0 212) l w) (hw12 : w < 4096) : ∀ (n s b : Nat) (ls : Int) (v8 v9 : Vl) (m : Mem), s + n = w + 1 → b ≤ w → Fr sBe m0 m → m 212 = m0 212 → Em Γ (d + 7) MX12_keptBy (fun r m' => r = (kep (fun s => valV (m0 212) l s false) w n s b ls : Int) ∧ Fr sBe m0 m') 21 [rv 211, iv l, iv 0, iv w, iv b, jv ls, uv, iv s, v8, v9] [] m := by
  intro n
  induction n with
  | zero =>
    intro s b ls v8 v9 m hs hb hF0 g12
    refine Ev.iload (q := 23) dX12_keptBy_21 rfl rfl ?_
    refine Ev.iload_n (q := 24) dX12_keptBy_23 rfl rfl ?_
    refine Ev.icmp_gt (tgt := 95) (q := 27) dX12_keptBy_24 (by decide) rfl (fun h1 => ?_) (fun h1 => ?_)
    · skip
      refine Ev.iload (q := 97) dX12_keptBy_95 rfl rfl ?_
      refine rI dX12_keptBy_97 rfl ?_
      exact ⟨rfl, hF0⟩
    · skip
      omega
  | succ n ih =>
    intro s b ls v8 v9 m hs hb hF0 g12
    refine Ev.iload (q := 23) dX12_keptBy_21 rfl rfl ?_
    refine Ev.iload_n (q := 24) dX12_keptBy_23 rfl rfl ?_
    refine Ev.icmp_gt (tgt := 95) (q := 27) dX12_keptBy_24 (by decide) rfl (fun h1 => ?_) (fun h1 => ?_)
    · skip
      omega
    · skip
      refine Ev.iload (q := 29) dX12_keptBy_27 rfl rfl ?_
      refine Ev.iload_n (q := 30) dX12_keptBy_29 rfl rfl ?_
      refine Ev.iconst (q := 31) dX12_keptBy_30 ki_m1 rfl ?_
      refine Ev.ixor (q := 32) dX12_keptBy_31 rfl ?_
      refine Ev.iand (q := 33) dX12_keptBy_32 rfl ?_
      rw [iandn_n (by omega)]
      refine Ev.if_eq (tgt := 39) (q := 36) dX12_keptBy_33 (by decide) rfl (fun h2 => ?_) (fun h2 => ?_)
      · skip
        have hd : dif s w = 0 := by omega
        refine Ev.aload_n (q := 40) dX12_keptBy_39 rfl rfl ?_
        refine Ev.iload_n (q := 41) dX12_keptBy_40 rfl rfl ?_
        refine Ev.iload (q := 43) dX12_keptBy_41 rfl rfl ?_
        refine Ev.iload_n (q := 44) dX12_keptBy_43 rfl rfl ?_
        refine cV3j (q := 47) (d' := d + 6) dX12_keptBy_44 mlX12_378 moX12_valueBy mvX12_valueBy k211 rfl rfl rfl (Nat.le_refl _) rfl rfl rfl (p_X12_valueBy_false l s (by rw [g12]; exact hI) (by rw [g12]; exact hl) (by rw [g12]; exact litOk_sub hw hd (by omega))) (fun r3 m3 e3 => ?_)
        obtain ⟨rfl, hfr⟩ := e3
        rw [g12]
        have hF2 := hF0.tr hfr
        generalize m3 = M2 at *
        have g2 : M2 212 = m0 212 := by rw [hfr.row 212 (fun _ => rfl)]; exact g12
        refine lstore_8 (q := 49) dX12_keptBy_47 rfl rfl rfl ?_
        refine Ev.lload (q := 51) dX12_keptBy_49 rfl rfl ?_
        refine Ev.lload (q := 53) dX12_keptBy_51 rfl rfl ?_
        refine Em.ok (fun hL9 hS9 hM9 => ?_)
        have q1 := okV_j (okA_0 hS9)
        have q2 := okV_j (okA_1 hS9)
        refine Ev.lcmp (q := 54) dX12_keptBy_53 rfl ?_
        refine Ev.if_gt (tgt := 89) (q := 57) dX12_keptBy_54 (by decide) rfl (fun h4 => ?_) (fun h4 => ?_)
        · skip
          rw [lcmp_gt q2 q1] at h4
          refine iinc_7 (q := 92) dX12_keptBy_89 rfl rfl rfl ?_
          refine Ev.goto (q := 21) dX12_keptBy_92 (by decide) ?_
          rw [w32_of (by omega) (by omega)]
          have hk := ih (s + 1) b ls (jv (valV (m0 212) l s false)) uv _ (by omega) (by omega) hF2 g2
          rw [show kep (fun s => valV (m0 212) l s false) w (n + 1) s b ls = kep (fun s => valV (m0 212) l s false) w n (s + 1) b ls by conv => lhs; unfold kep; rw [if_neg (by omega), if_pos (by omega)]] at ⊢
          exact hk
        · skip
          rw [lcmp_gt q2 q1] at h4
          refine Ev.lload (q := 59) dX12_keptBy_57 rfl rfl ?_
          refine Ev.lload (q := 61) dX12_keptBy_59 rfl rfl ?_
          refine Em.ok (fun hL9 hS9 hM9 => ?_)
          have q3 := okV_j (okA_0 hS9)
          have q4 := okV_j (okA_1 hS9)
          refine Ev.lcmp (q := 62) dX12_keptBy_61 rfl ?_
          refine Ev.if_ne (tgt := 81) (q := 65) dX12_keptBy_62 (by decide) rfl (fun h5 => ?_) (fun h5 => ?_)
          · skip
            rw [lcmp_z q4 q3] at h5
            refine Ev.iload (q := 83) dX12_keptBy_81 rfl rfl ?_
            refine istore_4 (q := 85) dX12_keptBy_83 rfl rfl rfl ?_
            refine Ev.lload (q := 87) dX12_keptBy_85 rfl rfl ?_
            refine lstore_5 (q := 89) dX12_keptBy_87 rfl rfl rfl ?_
            refine iinc_7 (q := 92) dX12_keptBy_89 rfl rfl rfl ?_
            refine Ev.goto (q := 21) dX12_keptBy_92 (by decide) ?_
            rw [w32_of (by omega) (by omega)]
            have hk := ih (s + 1) s (valV (m0 212) l s false) (jv (valV (m0 212) l s false)) uv _ (by omega) (by omega) hF2 g2
            rw [show kep (fun s => valV (m0 212) l s false) w (n + 1) s b ls = kep (fun s => valV (m0 212) l s false) w n (s + 1) s (valV (m0 212) l s false) by conv => lhs; unfold kep; rw [if_neg (by omega), if_neg (by omega)]] at ⊢
            exact hk
          · skip
            rw [lcmp_z q4 q3] at h5
            refine Ev.iload (q := 67) dX12_keptBy_65 rfl rfl ?_
            refine cS1i (q := 70) (d' := d + 6) dX12_keptBy_67 mlX12_224 moX12_bitsOf msX12_bitsOf rfl rfl (Nat.le_refl _) rfl rfl rfl (p_X12_bitsOf s (Nat.lt_of_le_of_lt (by omega) (hw.lt hI))) (fun r6 m6 e6 => ?_)
            obtain ⟨rfl, e6⟩ := e6
            obtain rfl := e6.symm
            refine Ev.iload (q := 72) dX12_keptBy_70 rfl rfl ?_
            refine cS1i (q := 75) (d' := d + 6) dX12_keptBy_72 mlX12_224 moX12_bitsOf msX12_bitsOf rfl rfl (Nat.le_refl _) rfl rfl rfl (p_X12_bitsOf b (Nat.lt_of_le_of_lt (by omega) (hw.lt hI))) (fun r7 m7 e7 => ?_)
            obtain ⟨rfl, e7⟩ := e7
            obtain rfl := e7.symm
            refine Ev.icmp_lt (tgt := 81) (q := 78) dX12_keptBy_75 (by decide) rfl (fun h8 => ?_) (fun h8 => ?_)
            · skip
              refine Ev.iload (q := 83) dX12_keptBy_81 rfl rfl ?_
              refine istore_4 (q := 85) dX12_keptBy_83 rfl rfl rfl ?_
              refine Ev.lload (q := 87) dX12_keptBy_85 rfl rfl ?_
              refine lstore_5 (q := 89) dX12_keptBy_87 rfl rfl rfl ?_
              refine iinc_7 (q := 92) dX12_keptBy_89 rfl rfl rfl ?_
              refine Ev.goto (q := 21) dX12_keptBy_92 (by decide) ?_
              rw [w32_of (by omega) (by omega)]
              have hk := ih (s + 1) s (valV (m0 212) l s false) (jv (valV (m0 212) l s false)) uv _ (by omega) (by omega) hF2 g2
              rw [show kep (fun s => valV (m0 212) l s false) w (n + 1) s b ls = kep (fun s => valV (m0 212) l s false) w n (s + 1) s (valV (m0 212) l s false) by conv => lhs; unfold kep; rw [if_neg (by omega), if_neg (by omega)]] at ⊢
              exact hk
            · skip
              refine Ev.goto (q := 89) dX12_keptBy_78 (by decide) ?_
              refine iinc_7 (q := 92) dX12_keptBy_89 rfl rfl rfl ?_
              refine Ev.goto (q := 21) dX12_keptBy_92 (by decide) ?_
              rw [w32_of (by omega) (by omega)]
              have hk := ih (s + 1) b ls (jv (valV (m0 212) l s false)) uv _ (by omega) (by omega) hF2 g2
              rw [show kep (fun s => valV (m0 212) l s false) w (n + 1) s b ls = kep (fun s => valV (m0 212) l s false) w n (s + 1) b ls by conv => lhs; unfold kep; rw [if_neg (by omega), if_pos (by omega)]] at ⊢
              exact hk
      · skip
        have hd : ¬ dif s w = 0 := by omega
        refine Ev.goto (q := 89) dX12_keptBy_36 (by decide) ?_
        refine iinc_7 (q := 92) dX12_keptBy_89 rfl rfl rfl ?_
        refine Ev.goto (q := 21) dX12_keptBy_92 (by decide) ?_
        rw [w32_of (by omega) (by omega)]
        have hk := ih (s + 1) b ls v8 v9 _ (by omega) (by omega) hF0 g12
        rw [show kep (fun s => valV (m0 212) l s false) w (n + 1) s b ls = kep (fun s => valV (m0 212) l s false) w n (s + 1) b ls by conv => lhs; unfold kep; rw [if_pos (by omega)]] at ⊢
        exact hk
set_option maxRecDepth 4000 in
theorem p_X12_keptBy_false {Γ : Gm} {d : Nat} {m : Mem} (l : Nat) (hI : HI (m 212)) (hl : (l : Int) < m 212 2) : Ci Γ (d + 7) MX12_keptBy [rv 211, iv l, iv 0] m (fun r m' => r = (keptV (m 212) l false : Int) ∧ Fr sBe m m') := by
  refine Ci.of moX12_keptBy rfl rfl (fun hA hM => ?_)
  show Em Γ (d + 7) MX12_keptBy _ 0 [rv 211, iv l, iv 0, uv, uv, uv, uv, uv, uv, uv] [] m
  have hL3 := hI.2.1
  have hlift := hI.lift hl
  have hlok := hI.litOk hl
  have e66 : m 212 (66 + l) = ((litV (m 212) l : Nat) : Int) := by unfold litV; have := hlift.2.1.1; omega
  refine Ev.aload_n (q := 1) dX12_keptBy_0 rfl rfl ?_
  refine gR (q := 4) dX12_keptBy_1 gfX12_13 k211 r211_1 rfl rfl ?_
  refine Ev.bipush (q := 6) dX12_keptBy_4 kb_66 rfl ?_
  refine Ev.iload_n (q := 7) dX12_keptBy_6 rfl rfl ?_
  refine Ev.iadd (q := 8) dX12_keptBy_7 rfl ?_
  refine aI (q := 9) (k := 66 + l) dX12_keptBy_8 k212 (by first | rfl | omega | (simp (disch := omega) only [w32_of]; omega)) (by omega) rfl ?_
  rw [e66]
  refine istore_n_3 (q := 10) dX12_keptBy_9 rfl rfl rfl ?_
  refine Ev.iconst (q := 11) dX12_keptBy_10 ki_0 rfl ?_
  refine istore_4 (q := 13) dX12_keptBy_11 rfl rfl rfl ?_
  refine Ev.ldc2 (q := 16) dX12_keptBy_13 klX12_376 klvX12_376 rfl ?_
  refine lstore_5 (q := 18) dX12_keptBy_16 rfl rfl rfl ?_
  refine Ev.iconst (q := 19) dX12_keptBy_18 ki_0 rfl ?_
  refine istore_7 (q := 21) dX12_keptBy_19 rfl rfl rfl ?_
  exact l_keptBy_false l (litV (m 212) l) hI hl hlok (hlok.lt hI) (litV (m 212) l + 1) 0 0 1000000000000000 uv uv m (by omega) (by omega) (Fr.rf _ _) rfl
