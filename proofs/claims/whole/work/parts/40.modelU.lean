/-! ===== the reference: deeds by number ===== -/
theorem doN_k {g : Nat → Int} {n k : Nat} (h1 : n / 1000 = k) : doN g n = doD g k (argD k (n % 1000)).1 (argD k (n % 1000)).2 := by
  unfold doN
  rw [Int.toNat_natCast, h1]
def telN (num : Nat → Int) : Nat → Nat → (Nat → Int) → Int × Nat × (Nat → Int)
  | 0, k, g => (0, k, g)
  | n + 1, k, g => if whyN g (num k) = 0 then telN num n (k + 1) (doN g (num k)) else (whyN g (num k), k, g)
theorem telN_ok {num : Nat → Int} : ∀ (n k : Nat) (g : Nat → Int), HI g → HI (telN num n k g).2.2 ∧ Kp g (telN num n k g).2.2 ∧ (telN num n k g).2.1 ≤ k + n := by
  intro n
  induction n with
  | zero => intro k g h; exact ⟨h, Kp.rf g, Nat.le_refl _⟩
  | succ n ih =>
    intro k g h
    unfold telN
    split
    · rename_i hw
      have := HI_N h hw
      have h2 := ih (k + 1) _ this.1
      exact ⟨h2.1, this.2.tr h2.2.1, by omega⟩
    · exact ⟨h, Kp.rf g, by show k ≤ _; omega⟩
def sTe (a k : Nat) : Bool := sRd a k || (a == 211 && k == 25)
theorem sTe_R {a k : Nat} (h : sTe a k = false) : sRd a k = false := by unfold sTe at h; simp at h; exact h.1
set_option maxRecDepth 4000 in
theorem p_X12_does {Γ : Gm} {d : Nat} {m : Mem} (n : Nat) (hI : HI (m 212)) (hw : whyN (m 212) n = 0) : Ci Γ (d + 5) MX12_does [rv 211, iv n] m (fun r m' => m' 212 = doN (m 212) n ∧ Fr sRd m m') := by
  refine Ci.of moX12_does rfl rfl (fun hA hM => ?_)
  show Em Γ (d + 5) MX12_does _ 0 [rv 211, iv n] [] m
  have hn6 : n < 6000 := by obtain ⟨q, e, h, -⟩ := whyN_0 hw; omega
  have hF12 := hI.1
  have hL3 := hI.2.1
  have hP8 := hI.2.2.1
  refine Ev.iload_n (q := 1) dX12_does_0 rfl rfl ?_
  refine Ev.sipush (q := 4) dX12_does_1 kh_1000 rfl ?_
  refine Ev.icmp_ge (tgt := 31) (q := 7) dX12_does_4 (by decide) rfl (fun h1 => ?_) (fun h1 => ?_)
  · skip
    have n1 : 1000 ≤ n := by omega
    refine Ev.iload_n (q := 32) dX12_does_31 rfl rfl ?_
    refine Ev.sipush (q := 35) dX12_does_32 kh_2000 rfl ?_
    refine Ev.icmp_ge (tgt := 68) (q := 38) dX12_does_35 (by decide) rfl (fun h2 => ?_) (fun h2 => ?_)
    · skip
      have n2 : 2000 ≤ n := by omega
      refine Ev.iload_n (q := 69) dX12_does_68 rfl rfl ?_
      refine Ev.sipush (q := 72) dX12_does_69 kh_3000 rfl ?_
      refine Ev.icmp_ge (tgt := 87) (q := 75) dX12_does_72 (by decide) rfl (fun h3 => ?_) (fun h3 => ?_)
      · skip
        have n3 : 3000 ≤ n := by omega
        refine Ev.iload_n (q := 88) dX12_does_87 rfl rfl ?_
        refine Ev.sipush (q := 91) dX12_does_88 kh_4000 rfl ?_
        refine Ev.icmp_ge (tgt := 111) (q := 94) dX12_does_91 (by decide) rfl (fun h4 => ?_) (fun h4 => ?_)
        · skip
          have n4 : 4000 ≤ n := by omega
          refine Ev.iload_n (q := 112) dX12_does_111 rfl rfl ?_
          refine Ev.sipush (q := 115) dX12_does_112 kh_5000 rfl ?_
          refine Ev.icmp_ge (tgt := 137) (q := 118) dX12_does_115 (by decide) rfl (fun h5 => ?_) (fun h5 => ?_)
          · skip
            have n5 : 5000 ≤ n := by omega
            have hk : n / 1000 = 5 := by omega
            rw [whyN_k hk hn6] at hw
            have q := whyW_0 (show whyW (m 212) ((n % 1000 / 100 : Nat) : Int) ((n % 1000 % 100 : Nat) : Int) = 0 from hw)
            simp only [Int.toNat_natCast] at q
            refine Ev.aload_n (q := 138) dX12_does_137 rfl rfl ?_
            refine Ev.iload_n (q := 139) dX12_does_138 rfl rfl ?_
            refine Ev.sipush (q := 142) dX12_does_139 kh_5000 rfl ?_
            refine Ev.isub (q := 143) dX12_does_142 rfl ?_
            have hL3 := hI.2.1
            have hP8 := hI.2.2.1
            have hF12 := hI.1
            rw [show w32 ((n : Int) - 5000) = ((n - 5000 : Nat) : Int) by rw [w32_of (by omega) (by omega)]; omega]
            refine Ev.bipush (q := 145) dX12_does_143 kb_100 rfl ?_
            refine Ev.idiv (q := 146) dX12_does_145 (by decide) rfl ?_
            rw [show o_idiv ((n - 5000 : Nat) : Int) 100 = (((n - 5000) / 100 : Nat) : Int) from idiv_n (a := (n - 5000)) (b := 100) (by omega) (by decide) (by decide)]
            refine Ev.iload_n (q := 147) dX12_does_146 rfl rfl ?_
            refine Ev.bipush (q := 149) dX12_does_147 kb_100 rfl ?_
            refine Ev.irem (q := 150) dX12_does_149 (by decide) rfl ?_
            rw [show o_irem (n : Int) 100 = ((n % 100 : Nat) : Int) from irem_n (a := n) (b := 100) (by omega) (by decide) (by decide)]
            rw [show (n - 5000) / 100 = n % 1000 / 100 by omega, show n % 100 = n % 1000 % 100 by omega]
            refine cV2v (q := 153) (d' := d + 4) dX12_does_150 mlX12_285 moX12_walksOne mvX12_walksOne k211 rfl rfl rfl (Nat.le_refl _) rfl rfl rfl (p_X12_walksOne _ _ hI q.1.2 (by omega)) (fun r6 m6 e6 => ?_)
            obtain ⟨eg, hF1⟩ := e6
            refine rV dX12_does_153 rfl ?_
            refine ⟨?_, hF1⟩
            rw [doN_k hk, eg]
            rfl
          · skip
            have hk : n / 1000 = 4 := by omega
            rw [whyN_k hk hn6] at hw
            have q := whyI_0 (show whyI (m 212) ((n % 1000 / 10 : Nat) : Int) ((n % 1000 % 10 : Nat) : Int) = 0 from hw)
            simp only [Int.toNat_natCast] at q
            have hL3 := hI.2.1
            have hP8 := hI.2.2.1
            refine Ev.aload_n (q := 119) dX12_does_118 rfl rfl ?_
            refine Ev.iload_n (q := 120) dX12_does_119 rfl rfl ?_
            refine Ev.sipush (q := 123) dX12_does_120 kh_4000 rfl ?_
            refine Ev.isub (q := 124) dX12_does_123 rfl ?_
            rw [show w32 ((n : Int) - 4000) = ((n - 4000 : Nat) : Int) by rw [w32_of (by omega) (by omega)]; omega]
            refine Ev.bipush (q := 126) dX12_does_124 kb_10 rfl ?_
            refine Ev.idiv (q := 127) dX12_does_126 (by decide) rfl ?_
            rw [show o_idiv ((n - 4000 : Nat) : Int) 10 = (((n - 4000) / 10 : Nat) : Int) from idiv_n (a := (n - 4000)) (b := 10) (by omega) (by decide) (by decide)]
            refine Ev.iload_n (q := 128) dX12_does_127 rfl rfl ?_
            refine Ev.bipush (q := 130) dX12_does_128 kb_10 rfl ?_
            refine Ev.irem (q := 131) dX12_does_130 (by decide) rfl ?_
            rw [show o_irem (n : Int) 10 = ((n % 10 : Nat) : Int) from irem_n (a := n) (b := 10) (by omega) (by decide) (by decide)]
            rw [show (n - 4000) / 10 = n % 1000 / 10 by omega, show n % 10 = n % 1000 % 10 by omega]
            refine cV2v (q := 134) (d' := d + 4) dX12_does_131 mlX12_278 moX12_getsIn mvX12_getsIn k211 rfl rfl rfl (Nat.le_refl _) rfl rfl rfl (p_X12_getsIn _ _ (by omega) (by omega)) (fun r7 m7 e7 => ?_)
            obtain ⟨eg, hF1⟩ := e7
            refine Ev.goto (q := 153) dX12_does_134 (by decide) ?_
            refine rV dX12_does_153 rfl ?_
            refine ⟨?_, hF1.mono (fun a k q => by unfold sRd at q; unfold s212; simp at q ⊢; exact q.2)⟩
            rw [doN_k hk, eg]
            rfl
        · skip
          have hk : n / 1000 = 3 := by omega
          rw [whyN_k hk hn6] at hw
          have q := whyO_0 (show whyO (m 212) ((n % 1000 : Nat) : Int) = 0 from hw)
          simp only [Int.toNat_natCast] at q
          have hr : n % 1000 = n - 3000 := by omega
          rw [hr] at q
          have hP8 := hI.2.2.1
          refine Ev.aload_n (q := 95) dX12_does_94 rfl rfl ?_
          refine gR (q := 98) dX12_does_95 gfX12_13 k211 r211_1 rfl rfl ?_
          refine Ev.bipush (q := 100) dX12_does_98 kb_88 rfl ?_
          refine Ev.iload_n (q := 101) dX12_does_100 rfl rfl ?_
          refine Ev.iadd (q := 102) dX12_does_101 rfl ?_
          refine Ev.sipush (q := 105) dX12_does_102 kh_3000 rfl ?_
          refine Ev.isub (q := 106) dX12_does_105 rfl ?_
          refine Ev.iconst (q := 107) dX12_does_106 ki_m1 rfl ?_
          rw [show w32 (w32 (88 + (n : Int)) - 3000) = ((88 + (n - 3000) : Nat) : Int) by rw [w32_of (z := 88 + (n : Int)) (by omega) (by omega), w32_of (by omega) (by omega)]; omega]
          refine sI (q := 108) (k := 88 + (n - 3000)) dX12_does_107 k212 (by first | rfl | omega | (simp (disch := omega) only [w32_of]; omega)) (by omega) rfl ?_
          refine Ev.goto (q := 153) dX12_does_108 (by decide) ?_
          refine rV dX12_does_153 rfl ?_
          refine ⟨?_, (Fr.rf _ _).up rfl⟩
          rw [doN_k hk, up_row, hr]
          rfl
      · skip
        have hk : n / 1000 = 2 := by omega
        rw [whyN_k hk hn6] at hw
        have q := whyR_0 (show whyR (m 212) ((n % 1000 : Nat) : Int) = 0 from hw)
        simp only [Int.toNat_natCast] at q
        have hr : n % 1000 = n - 2000 := by omega
        rw [hr] at q
        obtain ⟨t', ht'⟩ := tgo_lit hI q.1.2 q.2
        refine Ev.aload_n (q := 76) dX12_does_75 rfl rfl ?_
        refine Ev.iload_n (q := 77) dX12_does_76 rfl rfl ?_
        refine Ev.sipush (q := 80) dX12_does_77 kh_2000 rfl ?_
        refine Ev.isub (q := 81) dX12_does_80 rfl ?_
        rw [show w32 ((n : Int) - 2000) = ((n - 2000 : Nat) : Int) by rw [w32_of (by omega) (by omega)]; omega]
        refine cV1v (q := 84) (d' := d + 4) dX12_does_81 mlX12_268 moX12_ridesOne mvX12_ridesOne k211 rfl rfl rfl (Nat.le_refl _) rfl rfl rfl (p_X12_ridesOne (n - 2000) t' hI q.1.2 ht') (fun r8 m8 e8 => ?_)
        obtain ⟨eg, -, hF1⟩ := e8
        refine Ev.goto (q := 153) dX12_does_84 (by decide) ?_
        refine rV dX12_does_153 rfl ?_
        refine ⟨?_, hF1⟩
        rw [doN_k hk, eg, hr]
        show _ = ridG (m 212) (n - 2000)
        unfold ridG
        rw [ht']
    · skip
      have hk : n / 1000 = 1 := by omega
      rw [whyN_k hk hn6] at hw
      have q := whyP_0t (show whyP (m 212) ((n % 1000 / 100 : Nat) : Int) ((n % 1000 % 100 : Nat) : Int) true = 0 from hw)
      simp only [Int.toNat_natCast] at q
      obtain ⟨ln, hln⟩ : ∃ ln, ln = n % 1000 / 100 := ⟨_, rfl⟩
      obtain ⟨fn, hfn⟩ : ∃ fn, fn = n % 1000 % 100 := ⟨_, rfl⟩
      rw [← hln, ← hfn] at q
      have hlift := hI.lift q.1.2
      have e66 : m 212 (66 + ln) = ((litV (m 212) ln : Nat) : Int) := by unfold litV; have := hlift.2.1.1; omega
      have hlok := (hI.litOk q.1.2).lt hI
      refine Ev.aload_n (q := 39) dX12_does_38 rfl rfl ?_
      refine gR (q := 42) dX12_does_39 gfX12_13 k211 r211_1 rfl rfl ?_
      refine Ev.bipush (q := 44) dX12_does_42 kb_66 rfl ?_
      refine Ev.iload_n (q := 45) dX12_does_44 rfl rfl ?_
      refine Ev.sipush (q := 48) dX12_does_45 kh_1000 rfl ?_
      refine Ev.isub (q := 49) dX12_does_48 rfl ?_
      rw [show w32 ((n : Int) - 1000) = ((n - 1000 : Nat) : Int) by rw [w32_of (by omega) (by omega)]; omega]
      refine Ev.bipush (q := 51) dX12_does_49 kb_100 rfl ?_
      refine Ev.idiv (q := 52) dX12_does_51 (by decide) rfl ?_
      rw [show o_idiv ((n - 1000 : Nat) : Int) 100 = (((n - 1000) / 100 : Nat) : Int) from idiv_n (a := (n - 1000)) (b := 100) (by omega) (by decide) (by decide)]
      rw [show (n - 1000) / 100 = ln by omega]
      refine Ev.iadd (q := 53) dX12_does_52 rfl ?_
      refine Ev.dup2 (q := 54) dX12_does_53 (fun z => by cases z) (fun z => by cases z) rfl ?_
      refine aI (q := 55) (k := 66 + ln) dX12_does_54 k212 (by first | rfl | omega | (simp (disch := omega) only [w32_of]; omega)) (by omega) rfl ?_
      rw [e66]
      refine Ev.iconst (q := 56) dX12_does_55 ki_1 rfl ?_
      refine Ev.iload_n (q := 57) dX12_does_56 rfl rfl ?_
      refine Ev.bipush (q := 59) dX12_does_57 kb_100 rfl ?_
      refine Ev.irem (q := 60) dX12_does_59 (by decide) rfl ?_
      rw [show o_irem (n : Int) 100 = ((n % 100 : Nat) : Int) from irem_n (a := n) (b := 100) (by omega) (by decide) (by decide)]
      rw [show n % 100 = fn by omega]
      refine Ev.ishl (q := 61) dX12_does_60 rfl ?_
      rw [ishl_1 fn (by omega)]
      refine Ev.iconst (q := 62) dX12_does_61 ki_m1 rfl ?_
      refine Ev.ixor (q := 63) dX12_does_62 rfl ?_
      refine Ev.iand (q := 64) dX12_does_63 rfl ?_
      rw [iandn_n (by omega)]
      refine sI (q := 65) (k := 66 + ln) dX12_does_64 k212 (by first | rfl | omega | (simp (disch := omega) only [w32_of]; omega)) (by omega) rfl ?_
      refine Ev.goto (q := 153) dX12_does_65 (by decide) ?_
      refine rV dX12_does_153 rfl ?_
      refine ⟨?_, (Fr.rf _ _).up rfl⟩
      rw [doN_k hk, up_row]
      unfold doD argD
      simp only [if_true, hln, hfn]
      simp
  · skip
    have hk : n / 1000 = 0 := by omega
    rw [whyN_k hk hn6] at hw
    have q := whyP_0f (show whyP (m 212) ((n % 1000 / 100 : Nat) : Int) ((n % 1000 % 100 : Nat) : Int) false = 0 from hw)
    simp only [Int.toNat_natCast] at q
    obtain ⟨ln, hln⟩ : ∃ ln, ln = n % 1000 / 100 := ⟨_, rfl⟩
    obtain ⟨fn, hfn⟩ : ∃ fn, fn = n % 1000 % 100 := ⟨_, rfl⟩
    rw [← hln, ← hfn] at q
    have hlift := hI.lift q.1.2
    have e66 : m 212 (66 + ln) = ((litV (m 212) ln : Nat) : Int) := by unfold litV; have := hlift.2.1.1; omega
    have hlok := (hI.litOk q.1.2).lt hI
    refine Ev.aload_n (q := 8) dX12_does_7 rfl rfl ?_
    refine gR (q := 11) dX12_does_8 gfX12_13 k211 r211_1 rfl rfl ?_
    refine Ev.bipush (q := 13) dX12_does_11 kb_66 rfl ?_
    refine Ev.iload_n (q := 14) dX12_does_13 rfl rfl ?_
    refine Ev.bipush (q := 16) dX12_does_14 kb_100 rfl ?_
    refine Ev.idiv (q := 17) dX12_does_16 (by decide) rfl ?_
    rw [show o_idiv (n : Int) 100 = ((n / 100 : Nat) : Int) from idiv_n (a := n) (b := 100) (by omega) (by decide) (by decide)]
    rw [show n / 100 = ln by omega]
    refine Ev.iadd (q := 18) dX12_does_17 rfl ?_
    refine Ev.dup2 (q := 19) dX12_does_18 (fun z => by cases z) (fun z => by cases z) rfl ?_
    refine aI (q := 20) (k := 66 + ln) dX12_does_19 k212 (by first | rfl | omega | (simp (disch := omega) only [w32_of]; omega)) (by omega) rfl ?_
    rw [e66]
    refine Ev.iconst (q := 21) dX12_does_20 ki_1 rfl ?_
    refine Ev.iload_n (q := 22) dX12_does_21 rfl rfl ?_
    refine Ev.bipush (q := 24) dX12_does_22 kb_100 rfl ?_
    refine Ev.irem (q := 25) dX12_does_24 (by decide) rfl ?_
    rw [show o_irem (n : Int) 100 = ((n % 100 : Nat) : Int) from irem_n (a := n) (b := 100) (by omega) (by decide) (by decide)]
    rw [show n % 100 = fn by omega]
    refine Ev.ishl (q := 26) dX12_does_25 rfl ?_
    rw [ishl_1 fn (by omega)]
    refine Ev.ior (q := 27) dX12_does_26 rfl ?_
    rw [ior_n (k := 12) hlok (two_lt (by omega)) (by decide)]
    refine sI (q := 28) (k := 66 + ln) dX12_does_27 k212 (by first | rfl | omega | (simp (disch := omega) only [w32_of]; omega)) (by omega) rfl ?_
    refine Ev.goto (q := 153) dX12_does_28 (by decide) ?_
    refine rV dX12_does_153 rfl ?_
    refine ⟨?_, (Fr.rf _ _).up rfl⟩
    rw [doN_k hk, up_row]
    unfold doD argD
    simp only [if_true, hln, hfn]
    simp
set_option maxRecDepth 4000 in
theorem l_tells {Γ : Gm} {d : Nat} {m0 : Mem} (t N : Nat) (ht : t < 4) (hN : N ≤ 40) (h221 : m0 221 t = N) : ∀ (n k : Nat), k + n = N → ∀ (m : Mem), HI (m 212) → Fr sTe m0 m → m 211 25 = 0 → telN (fun i => m0 222 (40 * t + i)) N 0 (m0 212) = (telN (fun i => m0 222 (40 * t + i)) n k (m 212)) → Em Γ (d + 6) MX12_tells (fun r m' => r = ((telN (fun i => m0 222 (40 * t + i)) N 0 (m0 212)).2.1 : Int) ∧ m' 212 = (telN (fun i => m0 222 (40 * t + i)) N 0 (m0 212)).2.2 ∧ m' 211 25 = (telN (fun i => m0 222 (40 * t + i)) N 0 (m0 212)).1 ∧ Fr sTe m0 m') 7 [rv 211, iv t, iv k] [] m := by
  intro n
  induction n with
  | zero =>
    intro k hk m hI hF0 hz htel
    obtain rfl : N = k := by omega
    have f21 : m 221 t = N := by rw [hF0 221 t rfl]; exact h221
    refine Ev.iload_n (q := 8) dX12_tells_7 rfl rfl ?_
    refine Ev.aload_n (q := 9) dX12_tells_8 rfl rfl ?_
    refine gR (q := 12) dX12_tells_9 gfX12_45 k211 r211_33 rfl rfl ?_
    refine Ev.iload_n (q := 13) dX12_tells_12 rfl rfl ?_
    refine aI (q := 14) (k := t) dX12_tells_13 k221 (by first | rfl | omega | (simp (disch := omega) only [w32_of]; omega)) (by omega) rfl ?_
    rw [f21]
    refine Ev.icmp_ge (tgt := 67) (q := 17) dX12_tells_14 (by decide) rfl (fun h1 => ?_) (fun h1 => ?_)
    · skip
      refine Ev.aload_n (q := 68) dX12_tells_67 rfl rfl ?_
      refine gR (q := 71) dX12_tells_68 gfX12_45 k211 r211_33 rfl rfl ?_
      refine Ev.iload_n (q := 72) dX12_tells_71 rfl rfl ?_
      refine aI (q := 73) (k := t) dX12_tells_72 k221 (by first | rfl | omega | (simp (disch := omega) only [w32_of]; omega)) (by omega) rfl ?_
      refine rI dX12_tells_73 rfl ?_
      rw [htel]
      exact ⟨by rw [f21]; rfl, rfl, hz, hF0⟩
    · skip
      omega
  | succ n ih =>
    intro k hk m hI hF0 hz htel
    have f21 : m 221 t = N := by rw [hF0 221 t rfl]; exact h221
    have f22 : m 222 (40 * t + k) = m0 222 (40 * t + k) := hF0 222 _ rfl
    refine Ev.iload_n (q := 8) dX12_tells_7 rfl rfl ?_
    refine Ev.aload_n (q := 9) dX12_tells_8 rfl rfl ?_
    refine gR (q := 12) dX12_tells_9 gfX12_45 k211 r211_33 rfl rfl ?_
    refine Ev.iload_n (q := 13) dX12_tells_12 rfl rfl ?_
    refine aI (q := 14) (k := t) dX12_tells_13 k221 (by first | rfl | omega | (simp (disch := omega) only [w32_of]; omega)) (by omega) rfl ?_
    rw [f21]
    refine Ev.icmp_ge (tgt := 67) (q := 17) dX12_tells_14 (by decide) rfl (fun h1 => ?_) (fun h1 => ?_)
    · skip
      omega
    · skip
      refine Ev.aload_n (q := 18) dX12_tells_17 rfl rfl ?_
      refine Ev.aload_n (q := 19) dX12_tells_18 rfl rfl ?_
      refine Ev.aload_n (q := 20) dX12_tells_19 rfl rfl ?_
      refine gR (q := 23) dX12_tells_20 gfX12_48 k211 r211_34 rfl rfl ?_
      refine Ev.bipush (q := 25) dX12_tells_23 kb_40 rfl ?_
      refine Ev.iload_n (q := 26) dX12_tells_25 rfl rfl ?_
      refine Ev.imul (q := 27) dX12_tells_26 rfl ?_
      refine Ev.iload_n (q := 28) dX12_tells_27 rfl rfl ?_
      refine Ev.iadd (q := 29) dX12_tells_28 rfl ?_
      refine aJ (q := 30) (k := 40 * t + k) dX12_tells_29 k222 (by first | rfl | omega | (simp (disch := omega) only [w32_of]; omega)) (by omega) rfl ?_
      rw [f22]
      refine cV1i (q := 33) (d' := d + 5) dX12_tells_30 mlX12_317 moX12_whyNot mvX12_whyNot k211 rfl rfl rfl (Nat.le_refl _) rfl rfl rfl (p_X12_whyNot _ hI) (fun r2 m2 e2 => ?_)
      obtain ⟨rfl, e2⟩ := e2
      obtain rfl := e2.symm
      refine pI (q := 36) dX12_tells_33 gfX12_314 k211 rfl rfl ?_
      refine Ev.aload_n (q := 37) dX12_tells_36 rfl rfl ?_
      refine gI (q := 40) dX12_tells_37 gfX12_314 k211 rfl rfl ?_
      refine Ev.if_eq (tgt := 45) (q := 43) dX12_tells_40 (by decide) rfl (fun h3 => ?_) (fun h3 => ?_)
      · skip
        rw [up_eq] at h3
        have hw9 : whyN (m 212) (m0 222 (40 * t + k)) = 0 := h3
        obtain ⟨n9, hv9, hn9, -⟩ := whyN_0 hw9
        refine Ev.aload_n (q := 46) dX12_tells_45 rfl rfl ?_
        refine Ev.aload_n (q := 47) dX12_tells_46 rfl rfl ?_
        refine gR (q := 50) dX12_tells_47 gfX12_48 k211 r211_34 rfl rfl ?_
        refine Ev.bipush (q := 52) dX12_tells_50 kb_40 rfl ?_
        refine Ev.iload_n (q := 53) dX12_tells_52 rfl rfl ?_
        refine Ev.imul (q := 54) dX12_tells_53 rfl ?_
        refine Ev.iload_n (q := 55) dX12_tells_54 rfl rfl ?_
        refine Ev.iadd (q := 56) dX12_tells_55 rfl ?_
        refine aJ (q := 57) (k := 40 * t + k) dX12_tells_56 k222 (by first | rfl | omega | (simp (disch := omega) only [w32_of]; omega)) (by omega) rfl ?_
        rw [up_o _ _ (by decide), f22, hv9]
        refine Ev.l2i (q := 58) dX12_tells_57 rfl ?_
        rw [w32_of (by omega) (by omega)]
        refine cV1v (q := 61) (d' := d + 5) dX12_tells_58 mlX12_320 moX12_does mvX12_does k211 rfl rfl rfl (Nat.le_refl _) rfl rfl rfl (p_X12_does n9 (by rw [up_na _ _ (by decide)]; exact hI) (by rw [up_na _ _ (by decide), ← hv9]; exact hw9)) (fun r4 m4 e4 => ?_)
        obtain ⟨eg, hF1⟩ := e4
        rw [up_na _ _ (by decide), ← hv9] at eg
        rw [← hv9] at hF1
        have hF2 := (hF0.up (x := whyN (m 212) (m0 222 (40 * t + k))) (show sTe 211 25 = true from rfl)).tr (hF1.mono (fun a k q => sTe_R q))
        refine iinc_2 (q := 64) dX12_tells_61 rfl rfl rfl ?_
        refine Ev.goto (q := 7) dX12_tells_64 (by decide) ?_
        rw [w32_of (z := (k : Int) + 1) (by omega) (by omega)]
        refine ih (k + 1) (by omega) _ (by rw [eg]; exact (HI_N hI hw9).1) hF2 (by rw [hF1 211 25 rfl, up_eq]; exact hw9) ?_
        rw [htel, eg]
        conv => lhs; unfold telN
        rw [if_pos hw9]
      · skip
        rw [up_eq] at h3
        have hw9 : ¬ whyN (m 212) (m0 222 (40 * t + k)) = 0 := h3
        refine Ev.iload_n (q := 44) dX12_tells_43 rfl rfl ?_
        refine rI dX12_tells_44 rfl ?_
        rw [htel]
        unfold telN
        rw [if_neg hw9]
        exact ⟨rfl, up_na _ _ (by decide), up_eq _ _ _ _, hF0.up rfl⟩
set_option maxRecDepth 4000 in
theorem p_X12_tells {Γ : Gm} {d : Nat} {m : Mem} (t N : Nat) (ht : t < 4) (hN : N ≤ 40) (h221 : m 221 t = N) (hI : HI (m 212)) : Ci Γ (d + 6) MX12_tells [rv 211, iv t] m (fun r m' => r = ((telN (fun i => m 222 (40 * t + i)) N 0 (m 212)).2.1 : Int) ∧ m' 212 = (telN (fun i => m 222 (40 * t + i)) N 0 (m 212)).2.2 ∧ m' 211 25 = (telN (fun i => m 222 (40 * t + i)) N 0 (m 212)).1 ∧ Fr sTe m m') := by
  refine Ci.of moX12_tells rfl rfl (fun hA hM => ?_)
  show Em Γ (d + 6) MX12_tells _ 0 [rv 211, iv t, uv] [] m
  refine Ev.aload_n (q := 1) dX12_tells_0 rfl rfl ?_
  refine Ev.iconst (q := 2) dX12_tells_1 ki_0 rfl ?_
  refine pI (q := 5) dX12_tells_2 gfX12_314 k211 rfl rfl ?_
  refine Ev.iconst (q := 6) dX12_tells_5 ki_0 rfl ?_
  refine istore_n_2 (q := 7) dX12_tells_6 rfl rfl rfl ?_
  have hk9 := l_tells (Γ := Γ) (d := d) (m0 := m) t N ht hN h221 N 0 (by omega) (up m 211 25 0) (by rw [up_na _ _ (by decide)]; exact hI) ((Fr.rf _ _).up rfl) (up_eq _ _ _ _) (by rw [up_na _ _ (by decide)])
  exact hk9
