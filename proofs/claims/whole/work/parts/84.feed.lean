/-! ===== both: feed ===== -/
set_option maxRecDepth 4000 in
theorem lc_putBytes {Γ : Gm} {d : Nat} {m0 : Mem} (n : Nat) (a : Int) (hn : n + 4 ≤ 900) : ∀ (q k : Nat) (s : Int) (M : Mem), k + q = 4 → s = 24 - 8 * (k : Int) → M 0 1 = ((n + k : Nat) : Int) → (∀ j, j < k → M 1 (n + j) = (byV8 a j).toInt) → (∀ i, i < n → M 1 i = m0 1 i) → Fr sFe m0 M → Em Γ (d + 0) MX11_putBytes (fun r m' => m' 0 1 = ((n + 4 : Nat) : Int) ∧ (∀ j, j < 4 → m' 1 (n + j) = (byV8 a j).toInt) ∧ (∀ i, i < n → m' 1 i = m0 1 i) ∧ Fr sFe m0 m') 3 [rv 0, iv a, iv s] [] M := by
  intro q
  induction q with
  | zero =>
    intro k s M hk hs ht1 hb ho hF
    refine Ev.iload_n (q := 4) dX11_putBytes_3 rfl rfl ?_
    refine Ev.if_lt (tgt := 45) (q := 7) dX11_putBytes_4 (by decide) rfl (fun h1 => ?_) (fun h1 => ?_)
    · skip
      refine rV dX11_putBytes_45 rfl ?_
      obtain rfl : k = 4 := by omega
      exact ⟨ht1, hb, ho, hF⟩
    · skip
      omega
  | succ q ih =>
    intro k s M hk hs ht1 hb ho hF
    have hsh : s = ((24 - 8 * k : Nat) : Int) := by omega
    rw [hsh]
    refine Ev.iload_n (q := 4) dX11_putBytes_3 rfl rfl ?_
    refine Ev.if_lt (tgt := 45) (q := 7) dX11_putBytes_4 (by decide) rfl (fun h1 => ?_) (fun h1 => ?_)
    · skip
      omega
    · skip
      refine Ev.aload_n (q := 8) dX11_putBytes_7 rfl rfl ?_
      refine gI (q := 11) dX11_putBytes_8 gfX11_13 k0 rfl rfl ?_
      rw [ht1]
      refine Ev.aload_n (q := 12) dX11_putBytes_11 rfl rfl ?_
      refine gR (q := 15) dX11_putBytes_12 gfX11_9 k0 r0_0 rfl rfl ?_
      refine aLen (q := 16) dX11_putBytes_15 k1 (by decide) (by decide) rfl ?_
      refine Ev.icmp_ge (tgt := 39) (q := 19) dX11_putBytes_16 (by decide) rfl (fun h2 => ?_) (fun h2 => ?_)
      · skip
        omega
      · skip
        refine Ev.aload_n (q := 20) dX11_putBytes_19 rfl rfl ?_
        refine gR (q := 23) dX11_putBytes_20 gfX11_9 k0 r0_0 rfl rfl ?_
        refine Ev.aload_n (q := 24) dX11_putBytes_23 rfl rfl ?_
        refine Ev.dup (q := 25) dX11_putBytes_24 (fun z => by cases z) rfl ?_
        refine gI (q := 28) dX11_putBytes_25 gfX11_13 k0 rfl rfl ?_
        rw [ht1]
        refine Ev.dup_x1 (q := 29) dX11_putBytes_28 (fun z => by cases z) (fun z => by cases z) rfl ?_
        refine Ev.iconst (q := 30) dX11_putBytes_29 ki_1 rfl ?_
        refine Ev.iadd (q := 31) dX11_putBytes_30 rfl ?_
        refine pI (q := 34) dX11_putBytes_31 gfX11_13 k0 rfl rfl ?_
        refine Ev.iload_n (q := 35) dX11_putBytes_34 rfl rfl ?_
        refine Ev.iload_n (q := 36) dX11_putBytes_35 rfl rfl ?_
        skip
        refine Ev.iushr (q := 37) dX11_putBytes_36 rfl ?_
        refine Ev.i2b (q := 38) dX11_putBytes_37 rfl ?_
        refine sB (q := 39) (k := (n + k)) dX11_putBytes_38 k1 (by first | rfl | omega | (simp (disch := omega) only [w32_of]; omega)) (by omega) rfl ?_
        rw [i8_8 a (show k < 4 by omega)]
        refine iinc_2 (q := 42) dX11_putBytes_39 rfl rfl rfl ?_
        refine Ev.goto (q := 3) dX11_putBytes_42 (by decide) ?_
        rw [w32_of (z := ((24 - 8 * k : Nat) : Int) + -8) (by omega) (by omega), w32_of (z := ((n + k : Nat) : Int) + 1) (by omega) (by omega)]
        refine ih (k + 1) _ _ (by omega) (by omega) (by rw [up_o _ _ (by decide), up_eq]; omega) (fun j hj => ?_) (fun i hi => ?_) ((hF.up rfl).up rfl)
        · by_cases e : j = k
          · subst e; rw [up_eq]
          · rw [up_k _ _ (by omega), up_o _ _ (by decide)]; exact hb j (by omega)
        · rw [up_k _ _ (by omega), up_o _ _ (by decide)]; exact ho i hi
set_option maxRecDepth 4000 in
theorem p_X11_putBytes {Γ : Gm} {d : Nat} {m : Mem} (n : Nat) (a : Int) (hn : n + 4 ≤ 900) (ht1 : m 0 1 = n) : Ci Γ (d + 0) MX11_putBytes [rv 0, iv a] m (fun r m' => m' 0 1 = ((n + 4 : Nat) : Int) ∧ (∀ j, j < 4 → m' 1 (n + j) = (byV8 a j).toInt) ∧ (∀ i, i < n → m' 1 i = m 1 i) ∧ Fr sFe m m') := by
  refine Ci.of moX11_putBytes rfl rfl (fun hA hM => ?_)
  show Em Γ (d + 0) MX11_putBytes _ 0 [rv 0, iv a, uv] [] m
  refine Ev.bipush (q := 2) dX11_putBytes_0 kb_24 rfl ?_
  refine istore_n_2 (q := 3) dX11_putBytes_2 rfl rfl rfl ?_
  exact lc_putBytes n a hn 4 0 24 m (by omega) (by omega) (by rw [ht1]; rfl) (fun j hj => by omega) (fun _ _ => rfl) (Fr.rf _ _)
set_option maxRecDepth 4000 in
theorem p_X11_feed {Γ : Gm} {d : Nat} {m : Mem} (n : Nat) (a b c e f : Int) (ht1 : m 0 1 = n) (hn : n ≤ 900) : Ci Γ (d + 1) MX11_feed [rv 0, iv a, iv b, iv c, iv e, iv f] m (fun r m' => (n + 20 ≤ 900 → r = ((n + 20 : Nat) : Int) ∧ m' 0 1 = ((n + 20 : Nat) : Int) ∧ (∀ j, j < 20 → m' 1 (n + j) = (byV8 (argV a b c e f j) (j % 4)).toInt) ∧ (∀ i, i < n → m' 1 i = m 1 i) ∧ Fr sFe m m') ∧ (¬ n + 20 ≤ 900 → r = -5 ∧ m' = m)) := by
  refine Ci.of moX11_feed rfl rfl (fun hA hM => ?_)
  show Em Γ (d + 1) MX11_feed _ 0 [rv 0, iv a, iv b, iv c, iv e, iv f] [] m
  refine Ev.aload_n (q := 1) dX11_feed_0 rfl rfl ?_
  refine gI (q := 4) dX11_feed_1 gfX11_13 k0 rfl rfl ?_
  rw [ht1]
  refine Ev.bipush (q := 6) dX11_feed_4 kb_20 rfl ?_
  refine Ev.iadd (q := 7) dX11_feed_6 rfl ?_
  refine Ev.sipush (q := 10) dX11_feed_7 kh_900 rfl ?_
  rw [w32_of (by omega) (by omega)]
  refine Ev.icmp_le (tgt := 16) (q := 13) dX11_feed_10 (by decide) rfl (fun h1 => ?_) (fun h1 => ?_)
  · skip
    refine Ev.aload_n (q := 17) dX11_feed_16 rfl rfl ?_
    refine Ev.iload_n (q := 18) dX11_feed_17 rfl rfl ?_
    refine cV1v (q := 21) (d' := d + 0) dX11_feed_18 mlX11_108 moX11_putBytes mvX11_putBytes k0 rfl rfl rfl (Nat.le_refl _) rfl rfl rfl (p_X11_putBytes n a (by omega) ht1) (fun r2 m2 e2 => ?_)
    obtain ⟨M1, rfl⟩ : ∃ M1, M1 = m2 := ⟨_, rfl⟩
    obtain ⟨x1, y1, z1, f1⟩ := e2
    refine Ev.aload_n (q := 22) dX11_feed_21 rfl rfl ?_
    refine Ev.iload_n (q := 23) dX11_feed_22 rfl rfl ?_
    refine cV1v (q := 26) (d' := d + 0) dX11_feed_23 mlX11_108 moX11_putBytes mvX11_putBytes k0 rfl rfl rfl (Nat.le_refl _) rfl rfl rfl (p_X11_putBytes (n + 4) b (by omega) x1) (fun r3 m3 e3 => ?_)
    obtain ⟨M2, rfl⟩ : ∃ M2, M2 = m3 := ⟨_, rfl⟩
    obtain ⟨x2, y2, z2, f2⟩ := e3
    refine Ev.aload_n (q := 27) dX11_feed_26 rfl rfl ?_
    refine Ev.iload_n (q := 28) dX11_feed_27 rfl rfl ?_
    refine cV1v (q := 31) (d' := d + 0) dX11_feed_28 mlX11_108 moX11_putBytes mvX11_putBytes k0 rfl rfl rfl (Nat.le_refl _) rfl rfl rfl (p_X11_putBytes (n + 4 + 4) c (by omega) x2) (fun r4 m4 e4 => ?_)
    obtain ⟨M3, rfl⟩ : ∃ M3, M3 = m4 := ⟨_, rfl⟩
    obtain ⟨x3, y3, z3, f3⟩ := e4
    refine Ev.aload_n (q := 32) dX11_feed_31 rfl rfl ?_
    refine Ev.iload (q := 34) dX11_feed_32 rfl rfl ?_
    refine cV1v (q := 37) (d' := d + 0) dX11_feed_34 mlX11_108 moX11_putBytes mvX11_putBytes k0 rfl rfl rfl (Nat.le_refl _) rfl rfl rfl (p_X11_putBytes (n + 4 + 4 + 4) e (by omega) x3) (fun r5 m5 e5 => ?_)
    obtain ⟨M4, rfl⟩ : ∃ M4, M4 = m5 := ⟨_, rfl⟩
    obtain ⟨x4, y4, z4, f4⟩ := e5
    refine Ev.aload_n (q := 38) dX11_feed_37 rfl rfl ?_
    refine Ev.iload (q := 40) dX11_feed_38 rfl rfl ?_
    refine cV1v (q := 43) (d' := d + 0) dX11_feed_40 mlX11_108 moX11_putBytes mvX11_putBytes k0 rfl rfl rfl (Nat.le_refl _) rfl rfl rfl (p_X11_putBytes (n + 4 + 4 + 4 + 4) f (by omega) x4) (fun r6 m6 e6 => ?_)
    obtain ⟨M5, rfl⟩ : ∃ M5, M5 = m6 := ⟨_, rfl⟩
    obtain ⟨x5, y5, z5, f5⟩ := e6
    refine Ev.aload_n (q := 44) dX11_feed_43 rfl rfl ?_
    refine gI (q := 47) dX11_feed_44 gfX11_13 k0 rfl rfl ?_
    rw [x5]
    refine rI dX11_feed_47 rfl ?_
    refine ⟨fun _ => ⟨rfl, x5, fun j hj => ?_, fun i hi => ?_, f1.tr (f2.tr (f3.tr (f4.tr f5)))⟩, fun z => absurd (by omega) z⟩
    · unfold argV
      by_cases h4 : j < 4
      · rw [if_pos h4, z5 _ (by omega), z4 _ (by omega), z3 _ (by omega), z2 _ (by omega), y1 j h4, Nat.mod_eq_of_lt h4]
      · rw [if_neg h4]
        by_cases h8 : j < 8
        · obtain ⟨q, rfl⟩ : ∃ q, j = 4 + q := ⟨j - 4, by omega⟩
          rw [if_pos h8, z5 _ (by omega), z4 _ (by omega), z3 _ (by omega), show n + (4 + q) = n + 4 + q by omega, y2 q (by omega), show (4 + q) % 4 = q by omega]
        · rw [if_neg h8]
          by_cases h12 : j < 12
          · obtain ⟨q, rfl⟩ : ∃ q, j = 8 + q := ⟨j - 8, by omega⟩
            rw [if_pos h12, z5 _ (by omega), z4 _ (by omega), show n + (8 + q) = n + 4 + 4 + q by omega, y3 q (by omega), show (8 + q) % 4 = q by omega]
          · rw [if_neg h12]
            by_cases h16 : j < 16
            · obtain ⟨q, rfl⟩ : ∃ q, j = 12 + q := ⟨j - 12, by omega⟩
              rw [if_pos h16, z5 _ (by omega), show n + (12 + q) = n + 4 + 4 + 4 + q by omega, y4 q (by omega), show (12 + q) % 4 = q by omega]
            · obtain ⟨q, rfl⟩ : ∃ q, j = 16 + q := ⟨j - 16, by omega⟩
              rw [if_neg h16, show n + (16 + q) = n + 4 + 4 + 4 + 4 + q by omega, y5 q (by omega), show (16 + q) % 4 = q by omega]
    · rw [z5 _ (by omega), z4 _ (by omega), z3 _ (by omega), z2 _ (by omega), z1 _ hi]
  · skip
    refine Ev.bipush (q := 15) dX11_feed_13 kb_m5 rfl ?_
    refine rI dX11_feed_15 rfl ?_
    exact ⟨fun z => absurd z (by omega), fun _ => ⟨rfl, rfl⟩⟩
set_option maxRecDepth 4000 in
theorem l_feed {Γ : Gm} {d : Nat} {m0 : Mem} (n : Nat) (a b c e f : Int) (hn : n + 20 ≤ 900) : ∀ (q k : Nat) (v7 : Vl) (M : Mem), k + q = 20 → M 211 5 = ((n + k : Nat) : Int) → (∀ j, j < k → M 214 (n + j) = ((byV8 (argV a b c e f j) (j % 4)).toNat : Int)) → (∀ i, i < n → M 214 i = m0 214 i) → Fr sFm m0 M → Em Γ (d + 0) MX12_feed (fun r m' => r = ((n + 20 : Nat) : Int) ∧ m' 211 5 = ((n + 20 : Nat) : Int) ∧ (∀ j, j < 20 → m' 214 (n + j) = ((byV8 (argV a b c e f j) (j % 4)).toNat : Int)) ∧ (∀ i, i < n → m' 214 i = m0 214 i) ∧ Fr sFm m0 m') 24 [rv 211, iv a, iv b, iv c, iv e, iv f, iv k, v7] [] M := by
  intro q
  induction q with
  | zero =>
    intro k v7 M hk ht1 hb ho hF
    refine Ev.iload (q := 26) dX12_feed_24 rfl rfl ?_
    refine Ev.bipush (q := 28) dX12_feed_26 kb_20 rfl ?_
    refine Ev.icmp_ge (tgt := 121) (q := 31) dX12_feed_28 (by decide) rfl (fun h1 => ?_) (fun h1 => ?_)
    · skip
      refine Ev.aload_n (q := 122) dX12_feed_121 rfl rfl ?_
      refine gI (q := 125) dX12_feed_122 gfX12_56 k211 rfl rfl ?_
      rw [ht1]
      refine rI dX12_feed_125 rfl ?_
      obtain rfl : k = 20 := by omega
      exact ⟨rfl, ht1, hb, ho, hF⟩
    · skip
      omega
  | succ q ih =>
    intro k v7 M hk ht1 hb ho hF
    refine Ev.iload (q := 26) dX12_feed_24 rfl rfl ?_
    refine Ev.bipush (q := 28) dX12_feed_26 kb_20 rfl ?_
    refine Ev.icmp_ge (tgt := 121) (q := 31) dX12_feed_28 (by decide) rfl (fun h1 => ?_) (fun h1 => ?_)
    · skip
      omega
    · skip
      refine Ev.iload (q := 33) dX12_feed_31 rfl rfl ?_
      refine Ev.iconst (q := 34) dX12_feed_33 ki_4 rfl ?_
      refine Ev.icmp_ge (tgt := 41) (q := 37) dX12_feed_34 (by decide) rfl (fun h2 => ?_) (fun h2 => ?_)
      · skip
        refine Ev.iload (q := 43) dX12_feed_41 rfl rfl ?_
        refine Ev.bipush (q := 45) dX12_feed_43 kb_8 rfl ?_
        refine Ev.icmp_ge (tgt := 52) (q := 48) dX12_feed_45 (by decide) rfl (fun h3 => ?_) (fun h3 => ?_)
        · skip
          refine Ev.iload (q := 54) dX12_feed_52 rfl rfl ?_
          refine Ev.bipush (q := 56) dX12_feed_54 kb_12 rfl ?_
          refine Ev.icmp_ge (tgt := 63) (q := 59) dX12_feed_56 (by decide) rfl (fun h4 => ?_) (fun h4 => ?_)
          · skip
            refine Ev.iload (q := 65) dX12_feed_63 rfl rfl ?_
            refine Ev.bipush (q := 67) dX12_feed_65 kb_16 rfl ?_
            refine Ev.icmp_ge (tgt := 75) (q := 70) dX12_feed_67 (by decide) rfl (fun h5 => ?_) (fun h5 => ?_)
            · skip
              refine Ev.iload (q := 77) dX12_feed_75 rfl rfl ?_
              refine istore_7 (q := 79) dX12_feed_77 rfl rfl rfl ?_
              have hav : argV a b c e f k = f := by unfold argV; repeat (first | rfl | omega | split)
              refine Ev.aload_n (q := 80) dX12_feed_79 rfl rfl ?_
              refine gR (q := 83) dX12_feed_80 gfX12_21 k211 r211_3 rfl rfl ?_
              refine Ev.aload_n (q := 84) dX12_feed_83 rfl rfl ?_
              refine gI (q := 87) dX12_feed_84 gfX12_56 k211 rfl rfl ?_
              rw [ht1]
              refine Ev.iload (q := 89) dX12_feed_87 rfl rfl ?_
              refine Ev.bipush (q := 91) dX12_feed_89 kb_24 rfl ?_
              refine Ev.bipush (q := 93) dX12_feed_91 kb_8 rfl ?_
              refine Ev.iload (q := 95) dX12_feed_93 rfl rfl ?_
              refine Ev.iconst (q := 96) dX12_feed_95 ki_4 rfl ?_
              refine Ev.irem (q := 97) dX12_feed_96 (by decide) rfl ?_
              rw [show (4 : Int) = ((4 : Nat) : Int) from rfl, irem_n (by omega) (by decide) (by decide)]
              refine Ev.imul (q := 98) dX12_feed_97 rfl ?_
              rw [w32_of (by omega) (by omega)]
              refine Ev.isub (q := 99) dX12_feed_98 rfl ?_
              rw [w32_of (by omega) (by omega), show (24 : Int) - 8 * ((k % 4 : Nat) : Int) = ((24 - 8 * (k % 4) : Nat) : Int) by omega]
              refine Ev.ishr (q := 100) dX12_feed_99 rfl ?_
              refine Ev.sipush (q := 103) dX12_feed_100 kh_255 rfl ?_
              refine Ev.iand (q := 104) dX12_feed_103 rfl ?_
              refine sI (q := 105) (k := (n + k)) dX12_feed_104 k214 (by first | rfl | omega | (simp (disch := omega) only [w32_of]; omega)) (by omega) rfl ?_
              rw [feA _ (show k % 4 < 4 by omega)]
              refine Ev.aload_n (q := 106) dX12_feed_105 rfl rfl ?_
              refine Ev.dup (q := 107) dX12_feed_106 (fun z => by cases z) rfl ?_
              refine gI (q := 110) dX12_feed_107 gfX12_56 k211 rfl rfl ?_
              rw [up_o _ _ (by decide), ht1]
              refine Ev.iconst (q := 111) dX12_feed_110 ki_1 rfl ?_
              refine Ev.iadd (q := 112) dX12_feed_111 rfl ?_
              refine pI (q := 115) dX12_feed_112 gfX12_56 k211 rfl rfl ?_
              refine iinc_6 (q := 118) dX12_feed_115 rfl rfl rfl ?_
              refine Ev.goto (q := 24) dX12_feed_118 (by decide) ?_
              rw [w32_of (z := (k : Int) + 1) (by omega) (by omega), w32_of (z := ((n + k : Nat) : Int) + 1) (by omega) (by omega)]
              refine ih (k + 1) _ _ (by omega) (by rw [up_eq]; omega) (fun j hj => ?_) (fun i hi => ?_) ((hF.up rfl).up rfl)
              · rw [up_o _ _ (by decide)]
                by_cases e9 : j = k
                · subst e9; rw [up_eq, hav]
                · rw [up_k _ _ (by omega)]; exact hb j (by omega)
              · rw [up_o _ _ (by decide), up_k _ _ (by omega)]; exact ho i hi
            · skip
              refine Ev.iload (q := 72) dX12_feed_70 rfl rfl ?_
              refine Ev.goto (q := 77) dX12_feed_72 (by decide) ?_
              refine istore_7 (q := 79) dX12_feed_77 rfl rfl rfl ?_
              have hav : argV a b c e f k = e := by unfold argV; repeat (first | rfl | omega | split)
              refine Ev.aload_n (q := 80) dX12_feed_79 rfl rfl ?_
              refine gR (q := 83) dX12_feed_80 gfX12_21 k211 r211_3 rfl rfl ?_
              refine Ev.aload_n (q := 84) dX12_feed_83 rfl rfl ?_
              refine gI (q := 87) dX12_feed_84 gfX12_56 k211 rfl rfl ?_
              rw [ht1]
              refine Ev.iload (q := 89) dX12_feed_87 rfl rfl ?_
              refine Ev.bipush (q := 91) dX12_feed_89 kb_24 rfl ?_
              refine Ev.bipush (q := 93) dX12_feed_91 kb_8 rfl ?_
              refine Ev.iload (q := 95) dX12_feed_93 rfl rfl ?_
              refine Ev.iconst (q := 96) dX12_feed_95 ki_4 rfl ?_
              refine Ev.irem (q := 97) dX12_feed_96 (by decide) rfl ?_
              rw [show (4 : Int) = ((4 : Nat) : Int) from rfl, irem_n (by omega) (by decide) (by decide)]
              refine Ev.imul (q := 98) dX12_feed_97 rfl ?_
              rw [w32_of (by omega) (by omega)]
              refine Ev.isub (q := 99) dX12_feed_98 rfl ?_
              rw [w32_of (by omega) (by omega), show (24 : Int) - 8 * ((k % 4 : Nat) : Int) = ((24 - 8 * (k % 4) : Nat) : Int) by omega]
              refine Ev.ishr (q := 100) dX12_feed_99 rfl ?_
              refine Ev.sipush (q := 103) dX12_feed_100 kh_255 rfl ?_
              refine Ev.iand (q := 104) dX12_feed_103 rfl ?_
              refine sI (q := 105) (k := (n + k)) dX12_feed_104 k214 (by first | rfl | omega | (simp (disch := omega) only [w32_of]; omega)) (by omega) rfl ?_
              rw [feA _ (show k % 4 < 4 by omega)]
              refine Ev.aload_n (q := 106) dX12_feed_105 rfl rfl ?_
              refine Ev.dup (q := 107) dX12_feed_106 (fun z => by cases z) rfl ?_
              refine gI (q := 110) dX12_feed_107 gfX12_56 k211 rfl rfl ?_
              rw [up_o _ _ (by decide), ht1]
              refine Ev.iconst (q := 111) dX12_feed_110 ki_1 rfl ?_
              refine Ev.iadd (q := 112) dX12_feed_111 rfl ?_
              refine pI (q := 115) dX12_feed_112 gfX12_56 k211 rfl rfl ?_
              refine iinc_6 (q := 118) dX12_feed_115 rfl rfl rfl ?_
              refine Ev.goto (q := 24) dX12_feed_118 (by decide) ?_
              rw [w32_of (z := (k : Int) + 1) (by omega) (by omega), w32_of (z := ((n + k : Nat) : Int) + 1) (by omega) (by omega)]
              refine ih (k + 1) _ _ (by omega) (by rw [up_eq]; omega) (fun j hj => ?_) (fun i hi => ?_) ((hF.up rfl).up rfl)
              · rw [up_o _ _ (by decide)]
                by_cases e9 : j = k
                · subst e9; rw [up_eq, hav]
                · rw [up_k _ _ (by omega)]; exact hb j (by omega)
              · rw [up_o _ _ (by decide), up_k _ _ (by omega)]; exact ho i hi
          · skip
            refine Ev.iload_n (q := 60) dX12_feed_59 rfl rfl ?_
            refine Ev.goto (q := 77) dX12_feed_60 (by decide) ?_
            refine istore_7 (q := 79) dX12_feed_77 rfl rfl rfl ?_
            have hav : argV a b c e f k = c := by unfold argV; repeat (first | rfl | omega | split)
            refine Ev.aload_n (q := 80) dX12_feed_79 rfl rfl ?_
            refine gR (q := 83) dX12_feed_80 gfX12_21 k211 r211_3 rfl rfl ?_
            refine Ev.aload_n (q := 84) dX12_feed_83 rfl rfl ?_
            refine gI (q := 87) dX12_feed_84 gfX12_56 k211 rfl rfl ?_
            rw [ht1]
            refine Ev.iload (q := 89) dX12_feed_87 rfl rfl ?_
            refine Ev.bipush (q := 91) dX12_feed_89 kb_24 rfl ?_
            refine Ev.bipush (q := 93) dX12_feed_91 kb_8 rfl ?_
            refine Ev.iload (q := 95) dX12_feed_93 rfl rfl ?_
            refine Ev.iconst (q := 96) dX12_feed_95 ki_4 rfl ?_
            refine Ev.irem (q := 97) dX12_feed_96 (by decide) rfl ?_
            rw [show (4 : Int) = ((4 : Nat) : Int) from rfl, irem_n (by omega) (by decide) (by decide)]
            refine Ev.imul (q := 98) dX12_feed_97 rfl ?_
            rw [w32_of (by omega) (by omega)]
            refine Ev.isub (q := 99) dX12_feed_98 rfl ?_
            rw [w32_of (by omega) (by omega), show (24 : Int) - 8 * ((k % 4 : Nat) : Int) = ((24 - 8 * (k % 4) : Nat) : Int) by omega]
            refine Ev.ishr (q := 100) dX12_feed_99 rfl ?_
            refine Ev.sipush (q := 103) dX12_feed_100 kh_255 rfl ?_
            refine Ev.iand (q := 104) dX12_feed_103 rfl ?_
            refine sI (q := 105) (k := (n + k)) dX12_feed_104 k214 (by first | rfl | omega | (simp (disch := omega) only [w32_of]; omega)) (by omega) rfl ?_
            rw [feA _ (show k % 4 < 4 by omega)]
            refine Ev.aload_n (q := 106) dX12_feed_105 rfl rfl ?_
            refine Ev.dup (q := 107) dX12_feed_106 (fun z => by cases z) rfl ?_
            refine gI (q := 110) dX12_feed_107 gfX12_56 k211 rfl rfl ?_
            rw [up_o _ _ (by decide), ht1]
            refine Ev.iconst (q := 111) dX12_feed_110 ki_1 rfl ?_
            refine Ev.iadd (q := 112) dX12_feed_111 rfl ?_
            refine pI (q := 115) dX12_feed_112 gfX12_56 k211 rfl rfl ?_
            refine iinc_6 (q := 118) dX12_feed_115 rfl rfl rfl ?_
            refine Ev.goto (q := 24) dX12_feed_118 (by decide) ?_
            rw [w32_of (z := (k : Int) + 1) (by omega) (by omega), w32_of (z := ((n + k : Nat) : Int) + 1) (by omega) (by omega)]
            refine ih (k + 1) _ _ (by omega) (by rw [up_eq]; omega) (fun j hj => ?_) (fun i hi => ?_) ((hF.up rfl).up rfl)
            · rw [up_o _ _ (by decide)]
              by_cases e9 : j = k
              · subst e9; rw [up_eq, hav]
              · rw [up_k _ _ (by omega)]; exact hb j (by omega)
            · rw [up_o _ _ (by decide), up_k _ _ (by omega)]; exact ho i hi
        · skip
          refine Ev.iload_n (q := 49) dX12_feed_48 rfl rfl ?_
          refine Ev.goto (q := 77) dX12_feed_49 (by decide) ?_
          refine istore_7 (q := 79) dX12_feed_77 rfl rfl rfl ?_
          have hav : argV a b c e f k = b := by unfold argV; repeat (first | rfl | omega | split)
          refine Ev.aload_n (q := 80) dX12_feed_79 rfl rfl ?_
          refine gR (q := 83) dX12_feed_80 gfX12_21 k211 r211_3 rfl rfl ?_
          refine Ev.aload_n (q := 84) dX12_feed_83 rfl rfl ?_
          refine gI (q := 87) dX12_feed_84 gfX12_56 k211 rfl rfl ?_
          rw [ht1]
          refine Ev.iload (q := 89) dX12_feed_87 rfl rfl ?_
          refine Ev.bipush (q := 91) dX12_feed_89 kb_24 rfl ?_
          refine Ev.bipush (q := 93) dX12_feed_91 kb_8 rfl ?_
          refine Ev.iload (q := 95) dX12_feed_93 rfl rfl ?_
          refine Ev.iconst (q := 96) dX12_feed_95 ki_4 rfl ?_
          refine Ev.irem (q := 97) dX12_feed_96 (by decide) rfl ?_
          rw [show (4 : Int) = ((4 : Nat) : Int) from rfl, irem_n (by omega) (by decide) (by decide)]
          refine Ev.imul (q := 98) dX12_feed_97 rfl ?_
          rw [w32_of (by omega) (by omega)]
          refine Ev.isub (q := 99) dX12_feed_98 rfl ?_
          rw [w32_of (by omega) (by omega), show (24 : Int) - 8 * ((k % 4 : Nat) : Int) = ((24 - 8 * (k % 4) : Nat) : Int) by omega]
          refine Ev.ishr (q := 100) dX12_feed_99 rfl ?_
          refine Ev.sipush (q := 103) dX12_feed_100 kh_255 rfl ?_
          refine Ev.iand (q := 104) dX12_feed_103 rfl ?_
          refine sI (q := 105) (k := (n + k)) dX12_feed_104 k214 (by first | rfl | omega | (simp (disch := omega) only [w32_of]; omega)) (by omega) rfl ?_
          rw [feA _ (show k % 4 < 4 by omega)]
          refine Ev.aload_n (q := 106) dX12_feed_105 rfl rfl ?_
          refine Ev.dup (q := 107) dX12_feed_106 (fun z => by cases z) rfl ?_
          refine gI (q := 110) dX12_feed_107 gfX12_56 k211 rfl rfl ?_
          rw [up_o _ _ (by decide), ht1]
          refine Ev.iconst (q := 111) dX12_feed_110 ki_1 rfl ?_
          refine Ev.iadd (q := 112) dX12_feed_111 rfl ?_
          refine pI (q := 115) dX12_feed_112 gfX12_56 k211 rfl rfl ?_
          refine iinc_6 (q := 118) dX12_feed_115 rfl rfl rfl ?_
          refine Ev.goto (q := 24) dX12_feed_118 (by decide) ?_
          rw [w32_of (z := (k : Int) + 1) (by omega) (by omega), w32_of (z := ((n + k : Nat) : Int) + 1) (by omega) (by omega)]
          refine ih (k + 1) _ _ (by omega) (by rw [up_eq]; omega) (fun j hj => ?_) (fun i hi => ?_) ((hF.up rfl).up rfl)
          · rw [up_o _ _ (by decide)]
            by_cases e9 : j = k
            · subst e9; rw [up_eq, hav]
            · rw [up_k _ _ (by omega)]; exact hb j (by omega)
          · rw [up_o _ _ (by decide), up_k _ _ (by omega)]; exact ho i hi
      · skip
        refine Ev.iload_n (q := 38) dX12_feed_37 rfl rfl ?_
        refine Ev.goto (q := 77) dX12_feed_38 (by decide) ?_
        refine istore_7 (q := 79) dX12_feed_77 rfl rfl rfl ?_
        have hav : argV a b c e f k = a := by unfold argV; repeat (first | rfl | omega | split)
        refine Ev.aload_n (q := 80) dX12_feed_79 rfl rfl ?_
        refine gR (q := 83) dX12_feed_80 gfX12_21 k211 r211_3 rfl rfl ?_
        refine Ev.aload_n (q := 84) dX12_feed_83 rfl rfl ?_
        refine gI (q := 87) dX12_feed_84 gfX12_56 k211 rfl rfl ?_
        rw [ht1]
        refine Ev.iload (q := 89) dX12_feed_87 rfl rfl ?_
        refine Ev.bipush (q := 91) dX12_feed_89 kb_24 rfl ?_
        refine Ev.bipush (q := 93) dX12_feed_91 kb_8 rfl ?_
        refine Ev.iload (q := 95) dX12_feed_93 rfl rfl ?_
        refine Ev.iconst (q := 96) dX12_feed_95 ki_4 rfl ?_
        refine Ev.irem (q := 97) dX12_feed_96 (by decide) rfl ?_
        rw [show (4 : Int) = ((4 : Nat) : Int) from rfl, irem_n (by omega) (by decide) (by decide)]
        refine Ev.imul (q := 98) dX12_feed_97 rfl ?_
        rw [w32_of (by omega) (by omega)]
        refine Ev.isub (q := 99) dX12_feed_98 rfl ?_
        rw [w32_of (by omega) (by omega), show (24 : Int) - 8 * ((k % 4 : Nat) : Int) = ((24 - 8 * (k % 4) : Nat) : Int) by omega]
        refine Ev.ishr (q := 100) dX12_feed_99 rfl ?_
        refine Ev.sipush (q := 103) dX12_feed_100 kh_255 rfl ?_
        refine Ev.iand (q := 104) dX12_feed_103 rfl ?_
        refine sI (q := 105) (k := (n + k)) dX12_feed_104 k214 (by first | rfl | omega | (simp (disch := omega) only [w32_of]; omega)) (by omega) rfl ?_
        rw [feA _ (show k % 4 < 4 by omega)]
        refine Ev.aload_n (q := 106) dX12_feed_105 rfl rfl ?_
        refine Ev.dup (q := 107) dX12_feed_106 (fun z => by cases z) rfl ?_
        refine gI (q := 110) dX12_feed_107 gfX12_56 k211 rfl rfl ?_
        rw [up_o _ _ (by decide), ht1]
        refine Ev.iconst (q := 111) dX12_feed_110 ki_1 rfl ?_
        refine Ev.iadd (q := 112) dX12_feed_111 rfl ?_
        refine pI (q := 115) dX12_feed_112 gfX12_56 k211 rfl rfl ?_
        refine iinc_6 (q := 118) dX12_feed_115 rfl rfl rfl ?_
        refine Ev.goto (q := 24) dX12_feed_118 (by decide) ?_
        rw [w32_of (z := (k : Int) + 1) (by omega) (by omega), w32_of (z := ((n + k : Nat) : Int) + 1) (by omega) (by omega)]
        refine ih (k + 1) _ _ (by omega) (by rw [up_eq]; omega) (fun j hj => ?_) (fun i hi => ?_) ((hF.up rfl).up rfl)
        · rw [up_o _ _ (by decide)]
          by_cases e9 : j = k
          · subst e9; rw [up_eq, hav]
          · rw [up_k _ _ (by omega)]; exact hb j (by omega)
        · rw [up_o _ _ (by decide), up_k _ _ (by omega)]; exact ho i hi
set_option maxRecDepth 4000 in
theorem p_X12_feed {Γ : Gm} {d : Nat} {m : Mem} (n : Nat) (a b c e f : Int) (ht1 : m 211 5 = n) (hn : n ≤ 900) : Ci Γ (d + 0) MX12_feed [rv 211, iv a, iv b, iv c, iv e, iv f] m (fun r m' => (n + 20 ≤ 900 → r = ((n + 20 : Nat) : Int) ∧ m' 211 5 = ((n + 20 : Nat) : Int) ∧ (∀ j, j < 20 → m' 214 (n + j) = ((byV8 (argV a b c e f j) (j % 4)).toNat : Int)) ∧ (∀ i, i < n → m' 214 i = m 214 i) ∧ Fr sFm m m') ∧ (¬ n + 20 ≤ 900 → r = -5 ∧ Fr sQ m m')) := by
  refine Ci.of moX12_feed rfl rfl (fun hA hM => ?_)
  show Em Γ (d + 0) MX12_feed _ 0 [rv 211, iv a, iv b, iv c, iv e, iv f, uv, uv] [] m
  refine Ev.aload_n (q := 1) dX12_feed_0 rfl rfl ?_
  refine Ev.iconst (q := 2) dX12_feed_1 ki_0 rfl ?_
  refine pI (q := 5) dX12_feed_2 gfX12_1 k211 rfl rfl ?_
  refine Ev.aload_n (q := 6) dX12_feed_5 rfl rfl ?_
  refine gI (q := 9) dX12_feed_6 gfX12_56 k211 rfl rfl ?_
  rw [up_k _ _ (by decide), ht1]
  refine Ev.bipush (q := 11) dX12_feed_9 kb_20 rfl ?_
  refine Ev.iadd (q := 12) dX12_feed_11 rfl ?_
  refine Ev.sipush (q := 15) dX12_feed_12 kh_900 rfl ?_
  rw [w32_of (by omega) (by omega)]
  refine Ev.icmp_le (tgt := 21) (q := 18) dX12_feed_15 (by decide) rfl (fun h1 => ?_) (fun h1 => ?_)
  · skip
    refine Ev.iconst (q := 22) dX12_feed_21 ki_0 rfl ?_
    refine istore_6 (q := 24) dX12_feed_22 rfl rfl rfl ?_
    refine (l_feed (m0 := m) n a b c e f (by omega) 20 0 uv _ (by omega) (by rw [up_k _ _ (by decide), ht1]; rfl) (fun j hj => by omega) (fun i hi => by rw [up_o _ _ (by decide)]) ((Fr.rf _ _).up rfl)).imp ?_
    intro r9 m9 h9
    exact ⟨fun _ => h9, fun z => absurd (by omega) z⟩
  · skip
    refine Ev.bipush (q := 20) dX12_feed_18 kb_m5 rfl ?_
    refine rI dX12_feed_20 rfl ?_
    exact ⟨fun z => absurd z (by omega), fun _ => ⟨rfl, (Fr.rf _ _).up rfl⟩⟩
