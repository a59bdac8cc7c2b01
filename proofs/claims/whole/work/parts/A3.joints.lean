/-! ===== the class: joints of laws ===== -/
set_option maxRecDepth 4000 in
theorem p_X6_readJoint {Γ : Gm} {d : Nat} {m : Mem} (tx : Nat → Int) (N : Nat) (t : Tok) (c deep : Nat) (cs s : List Int) (hN : N ≤ 900) (hC : TC m tx N) (hT9 : tT tx N t) (h : OKc m t) (hc : c ∈ lawC) (hI : LI5 m c cs s deep) (hd : deep ≤ 6) (hs : s.length ≤ 22) (hcs : cs.length + s.length < 900) (hin : 0 < deep → -14 ∈ s) : Ci Γ (d + 6) MX6_readJoint [rv 2, rv c] m (fun r m' => (0 < deep → t.1 = 36 → r = 0 ∧ OKc m' (nxS tx N t) ∧ LI5 m' c (cs ++ (flO s).1) (flO s).2.tail (deep - 1)) ∧ (t.1 = 32 → r = 1 ∧ OKc m' (nxS tx N t) ∧ LI5 m' c (cs ++ (flJ (-11) s).1) (-11 :: (flJ (-11) s).2) deep) ∧ (t.1 = 33 → r = 1 ∧ OKc m' (nxS tx N t) ∧ LI5 m' c (cs ++ (flJ (-12) s).1) (-12 :: (flJ (-12) s).2) deep) ∧ (t.1 = 34 → r = 1 ∧ OKc m' (nxS tx N t) ∧ LI5 m' c (cs ++ (flJ (-13) s).1) (-13 :: (flJ (-13) s).2) deep) ∧ (¬ (0 < deep ∧ t.1 = 36) → ¬ t.1 = 32 → ¬ t.1 = 33 → ¬ t.1 = 34 → r = 1 ∧ BDc m' ((if t.1 = 25 then 1 else 2), t.2.1) ∧ LI5 m' c cs s deep) ∧ Fr (sLa c) m m') := by
  refine Ci.of moX6_readJoint rfl rfl (fun hA hM => ?_)
  show Em Γ (d + 6) MX6_readJoint _ 0 [rv 2, rv c, uv] [] m
  obtain ⟨lwK, lwr2, lwr3, lwr5, lwK1, lwK2, lwK3, lwN⟩ := lawK c hc
  refine Ev.aload_n (q := 1) dX6_readJoint_0 rfl rfl ?_
  refine gI (q := 4) dX6_readJoint_1 gfX6_218 lwK rfl rfl ?_
  first | rw [hI.2.1] | rw [hI.2.1.1]
  refine Ev.if_le (tgt := 23) (q := 7) dX6_readJoint_4 (by decide) rfl (fun h1 => ?_) (fun h1 => ?_)
  · skip
    have hncl : ¬ (0 < deep ∧ t.1 = 36) := by omega
    refine Ev.iconst (q := 24) dX6_readJoint_23 ki_0 rfl ?_
    refine istore_n_2 (q := 25) dX6_readJoint_24 rfl rfl rfl ?_
    refine Ev.iload_n (q := 26) dX6_readJoint_25 rfl rfl ?_
    refine Ev.if_eq (tgt := 36) (q := 29) dX6_readJoint_26 (by decide) rfl (fun h61 => ?_) (fun h61 => ?_)
    · skip
      refine Ev.aload_n (q := 37) dX6_readJoint_36 rfl rfl ?_
      refine gR (q := 40) dX6_readJoint_37 gfX6_35 k2 r2_4 rfl rfl ?_
      refine Ev.bipush (q := 42) dX6_readJoint_40 kb_43 rfl ?_
      refine cV1i (q := 45) (d' := d + 5) dX6_readJoint_42 mlX6_152 moX8_isSign mvX8_isSign k22 rfl rfl rfl (Nat.le_refl _) rfl rfl rfl (p_X8_isSign tx N t 43 32 hN hC hT9 h.2 (by decide)) (fun r62 m62 e62 => ?_)
      obtain ⟨rfl, e62⟩ := e62
      obtain rfl := e62.symm
      refine Ev.if_eq (tgt := 57) (q := 48) dX6_readJoint_45 (by decide) rfl (fun h63 => ?_) (fun h63 => ?_)
      · skip
        have hn32 : ¬ t.1 = 32 := by split at h63 <;> omega
        refine Ev.aload_n (q := 58) dX6_readJoint_57 rfl rfl ?_
        refine gR (q := 61) dX6_readJoint_58 gfX6_35 k2 r2_4 rfl rfl ?_
        refine Ev.bipush (q := 63) dX6_readJoint_61 kb_45 rfl ?_
        refine cV1i (q := 66) (d' := d + 5) dX6_readJoint_63 mlX6_152 moX8_isSign mvX8_isSign k22 rfl rfl rfl (Nat.le_refl _) rfl rfl rfl (p_X8_isSign tx N t 45 33 hN hC hT9 h.2 (by decide)) (fun r64 m64 e64 => ?_)
        obtain ⟨rfl, e64⟩ := e64
        obtain rfl := e64.symm
        refine Ev.if_eq (tgt := 78) (q := 69) dX6_readJoint_66 (by decide) rfl (fun h65 => ?_) (fun h65 => ?_)
        · skip
          have hn33 : ¬ t.1 = 33 := by split at h65 <;> omega
          refine Ev.aload_n (q := 79) dX6_readJoint_78 rfl rfl ?_
          refine gR (q := 82) dX6_readJoint_79 gfX6_35 k2 r2_4 rfl rfl ?_
          refine Ev.bipush (q := 84) dX6_readJoint_82 kb_42 rfl ?_
          refine cV1i (q := 87) (d' := d + 5) dX6_readJoint_84 mlX6_152 moX8_isSign mvX8_isSign k22 rfl rfl rfl (Nat.le_refl _) rfl rfl rfl (p_X8_isSign tx N t 42 34 hN hC hT9 h.2 (by decide)) (fun r66 m66 e66 => ?_)
          obtain ⟨rfl, e66⟩ := e66
          obtain rfl := e66.symm
          refine Ev.if_eq (tgt := 99) (q := 90) dX6_readJoint_87 (by decide) rfl (fun h67 => ?_) (fun h67 => ?_)
          · skip
            have hn34 : ¬ t.1 = 34 := by split at h67 <;> omega
            refine Ev.aload_n (q := 100) dX6_readJoint_99 rfl rfl ?_
            refine Ev.iconst (q := 101) dX6_readJoint_100 ki_2 rfl ?_
            refine cV1v (q := 104) (d' := d + 5) dX6_readJoint_101 mlX6_118 moX6_fail mvX6_fail k2 rfl rfl rfl (Nat.le_refl _) rfl rfl rfl (p_X6_fail tx N t 2 hT9 (by decide) h) (fun r68 m68 e68 => ?_)
            obtain ⟨M8, rfl⟩ : ∃ M8, M8 = m68 := ⟨_, rfl⟩
            obtain ⟨b1, b2, b3⟩ := e68
            refine Ev.aload_n (q := 105) dX6_readJoint_104 rfl rfl ?_
            refine gR (q := 108) dX6_readJoint_105 gfX6_35 k2 r2_4 rfl rfl ?_
            refine cV0v (q := 111) (d' := d + 5) dX6_readJoint_108 mlX6_132 moX8_next mvX8_next k22 rfl rfl rfl (Nat.le_refl _) rfl rfl rfl (p_X8_next tx N t.2.2.1 hN (hC.f b2) hT9.ok.2.1 (by rw [b3]; exact h.2.2.2.1)) (fun r121 m121 e121 => ?_)
            obtain ⟨M9, rfl⟩ : ∃ M9, M9 = m121 := ⟨_, rfl⟩
            obtain ⟨y1, y2⟩ := e121
            refine Ev.iload_n (q := 112) dX6_readJoint_111 rfl rfl ?_
            refine Ev.if_ne (tgt := 119) (q := 115) dX6_readJoint_112 (by decide) rfl (fun h122 => ?_) (fun h122 => ?_)
            · skip
              omega
            · skip
              refine Ev.iconst (q := 116) dX6_readJoint_115 ki_1 rfl ?_
              refine Ev.goto (q := 120) dX6_readJoint_116 (by decide) ?_
              refine rZ dX6_readJoint_120 rfl (by decide) ?_
              exact ⟨fun z1 z2 => absurd ⟨z1, z2⟩ hncl, fun z => absurd z hn32, fun z => absurd z hn33, fun z => absurd z hn34, fun _ _ _ _ => ⟨rfl, b1.n y2, (hI.tf lwN b2).tf lwN y2.tf⟩, b2.la1.tr y2.tf.la1⟩
          · skip
            have hk : t.1 = 34 := by split at h67 <;> omega
            refine Ev.aload_n (q := 91) dX6_readJoint_90 rfl rfl ?_
            refine Ev.bipush (q := 93) dX6_readJoint_91 kb_m13 rfl ?_
            refine cV1v (q := 96) (d' := d + 5) dX6_readJoint_93 mlX6_247 moX2_join mvX2_join lwK rfl rfl rfl (Nat.le_refl _) rfl rfl rfl (p_X2_join c cs s (-13) hc hI.1 (by omega) (by omega)) (fun r69 m69 e69 => ?_)
            obtain ⟨M8, rfl⟩ : ∃ M8, M8 = m69 := ⟨_, rfl⟩
            obtain ⟨z1, z2⟩ := e69
            have zl := z2.lb
            refine Ev.goto (q := 104) dX6_readJoint_96 (by decide) ?_
            refine Ev.aload_n (q := 105) dX6_readJoint_104 rfl rfl ?_
            refine gR (q := 108) dX6_readJoint_105 gfX6_35 k2 r2_4 rfl rfl ?_
            refine cV0v (q := 111) (d' := d + 5) dX6_readJoint_108 mlX6_132 moX8_next mvX8_next k22 rfl rfl rfl (Nat.le_refl _) rfl rfl rfl (p_X8_next tx N t.2.2.1 hN (hC.lb lwN zl) hT9.ok.2.1 (by rw [zl 22 2 (sLb_f (by omega))]; exact h.2.2.2.1)) (fun r121 m121 e121 => ?_)
            obtain ⟨M9, rfl⟩ : ∃ M9, M9 = m121 := ⟨_, rfl⟩
            obtain ⟨y1, y2⟩ := e121
            refine Ev.iload_n (q := 112) dX6_readJoint_111 rfl rfl ?_
            refine Ev.if_ne (tgt := 119) (q := 115) dX6_readJoint_112 (by decide) rfl (fun h122 => ?_) (fun h122 => ?_)
            · skip
              omega
            · skip
              refine Ev.iconst (q := 116) dX6_readJoint_115 ki_1 rfl ?_
              refine Ev.goto (q := 120) dX6_readJoint_116 (by decide) ?_
              refine rZ dX6_readJoint_120 rfl (by decide) ?_
              exact ⟨fun _ z => absurd z (by omega), fun z => absurd z (by omega), fun z => absurd z (by omega), fun _ => ⟨rfl, OKc_nx (h.lb lwN zl).1 y1 y2, LI5.tf lwN ⟨z1, by rw [z2 c 1 (sEm_f (by omega))]; exact hI.2.1, by rw [z2 c 0 (sEm_f (by omega))]; exact hI.2.2⟩ y2.tf⟩, fun _ z1 z2 z3 => absurd hk z3, zl.la2.tr y2.tf.la1⟩
        · skip
          have hk : t.1 = 33 := by split at h65 <;> omega
          refine Ev.aload_n (q := 70) dX6_readJoint_69 rfl rfl ?_
          refine Ev.bipush (q := 72) dX6_readJoint_70 kb_m12 rfl ?_
          refine cV1v (q := 75) (d' := d + 5) dX6_readJoint_72 mlX6_247 moX2_join mvX2_join lwK rfl rfl rfl (Nat.le_refl _) rfl rfl rfl (p_X2_join c cs s (-12) hc hI.1 (by omega) (by omega)) (fun r70 m70 e70 => ?_)
          obtain ⟨M8, rfl⟩ : ∃ M8, M8 = m70 := ⟨_, rfl⟩
          obtain ⟨z1, z2⟩ := e70
          have zl := z2.lb
          refine Ev.goto (q := 104) dX6_readJoint_75 (by decide) ?_
          refine Ev.aload_n (q := 105) dX6_readJoint_104 rfl rfl ?_
          refine gR (q := 108) dX6_readJoint_105 gfX6_35 k2 r2_4 rfl rfl ?_
          refine cV0v (q := 111) (d' := d + 5) dX6_readJoint_108 mlX6_132 moX8_next mvX8_next k22 rfl rfl rfl (Nat.le_refl _) rfl rfl rfl (p_X8_next tx N t.2.2.1 hN (hC.lb lwN zl) hT9.ok.2.1 (by rw [zl 22 2 (sLb_f (by omega))]; exact h.2.2.2.1)) (fun r121 m121 e121 => ?_)
          obtain ⟨M9, rfl⟩ : ∃ M9, M9 = m121 := ⟨_, rfl⟩
          obtain ⟨y1, y2⟩ := e121
          refine Ev.iload_n (q := 112) dX6_readJoint_111 rfl rfl ?_
          refine Ev.if_ne (tgt := 119) (q := 115) dX6_readJoint_112 (by decide) rfl (fun h122 => ?_) (fun h122 => ?_)
          · skip
            omega
          · skip
            refine Ev.iconst (q := 116) dX6_readJoint_115 ki_1 rfl ?_
            refine Ev.goto (q := 120) dX6_readJoint_116 (by decide) ?_
            refine rZ dX6_readJoint_120 rfl (by decide) ?_
            exact ⟨fun _ z => absurd z (by omega), fun z => absurd z (by omega), fun _ => ⟨rfl, OKc_nx (h.lb lwN zl).1 y1 y2, LI5.tf lwN ⟨z1, by rw [z2 c 1 (sEm_f (by omega))]; exact hI.2.1, by rw [z2 c 0 (sEm_f (by omega))]; exact hI.2.2⟩ y2.tf⟩, fun z => absurd z (by omega), fun _ z1 z2 z3 => absurd hk z2, zl.la2.tr y2.tf.la1⟩
      · skip
        have hk : t.1 = 32 := by split at h63 <;> omega
        refine Ev.aload_n (q := 49) dX6_readJoint_48 rfl rfl ?_
        refine Ev.bipush (q := 51) dX6_readJoint_49 kb_m11 rfl ?_
        refine cV1v (q := 54) (d' := d + 5) dX6_readJoint_51 mlX6_247 moX2_join mvX2_join lwK rfl rfl rfl (Nat.le_refl _) rfl rfl rfl (p_X2_join c cs s (-11) hc hI.1 (by omega) (by omega)) (fun r71 m71 e71 => ?_)
        obtain ⟨M8, rfl⟩ : ∃ M8, M8 = m71 := ⟨_, rfl⟩
        obtain ⟨z1, z2⟩ := e71
        have zl := z2.lb
        refine Ev.goto (q := 104) dX6_readJoint_54 (by decide) ?_
        refine Ev.aload_n (q := 105) dX6_readJoint_104 rfl rfl ?_
        refine gR (q := 108) dX6_readJoint_105 gfX6_35 k2 r2_4 rfl rfl ?_
        refine cV0v (q := 111) (d' := d + 5) dX6_readJoint_108 mlX6_132 moX8_next mvX8_next k22 rfl rfl rfl (Nat.le_refl _) rfl rfl rfl (p_X8_next tx N t.2.2.1 hN (hC.lb lwN zl) hT9.ok.2.1 (by rw [zl 22 2 (sLb_f (by omega))]; exact h.2.2.2.1)) (fun r121 m121 e121 => ?_)
        obtain ⟨M9, rfl⟩ : ∃ M9, M9 = m121 := ⟨_, rfl⟩
        obtain ⟨y1, y2⟩ := e121
        refine Ev.iload_n (q := 112) dX6_readJoint_111 rfl rfl ?_
        refine Ev.if_ne (tgt := 119) (q := 115) dX6_readJoint_112 (by decide) rfl (fun h122 => ?_) (fun h122 => ?_)
        · skip
          omega
        · skip
          refine Ev.iconst (q := 116) dX6_readJoint_115 ki_1 rfl ?_
          refine Ev.goto (q := 120) dX6_readJoint_116 (by decide) ?_
          refine rZ dX6_readJoint_120 rfl (by decide) ?_
          exact ⟨fun _ z => absurd z (by omega), fun _ => ⟨rfl, OKc_nx (h.lb lwN zl).1 y1 y2, LI5.tf lwN ⟨z1, by rw [z2 c 1 (sEm_f (by omega))]; exact hI.2.1, by rw [z2 c 0 (sEm_f (by omega))]; exact hI.2.2⟩ y2.tf⟩, fun z => absurd z (by omega), fun z => absurd z (by omega), fun _ z1 z2 z3 => absurd hk z1, zl.la2.tr y2.tf.la1⟩
    · skip
      omega
  · skip
    have hd0 : 0 < deep := by omega
    refine Ev.aload_n (q := 8) dX6_readJoint_7 rfl rfl ?_
    refine gR (q := 11) dX6_readJoint_8 gfX6_35 k2 r2_4 rfl rfl ?_
    refine Ev.bipush (q := 13) dX6_readJoint_11 kb_41 rfl ?_
    refine cV1i (q := 16) (d' := d + 5) dX6_readJoint_13 mlX6_152 moX8_isSign mvX8_isSign k22 rfl rfl rfl (Nat.le_refl _) rfl rfl rfl (p_X8_isSign tx N t 41 36 hN hC hT9 h.2 (by decide)) (fun r2 m2 e2 => ?_)
    obtain ⟨rfl, e2⟩ := e2
    obtain rfl := e2.symm
    refine Ev.if_eq (tgt := 23) (q := 19) dX6_readJoint_16 (by decide) rfl (fun h3 => ?_) (fun h3 => ?_)
    · skip
      have hncl : ¬ (0 < deep ∧ t.1 = 36) := by split at h3 <;> omega
      refine Ev.iconst (q := 24) dX6_readJoint_23 ki_0 rfl ?_
      refine istore_n_2 (q := 25) dX6_readJoint_24 rfl rfl rfl ?_
      refine Ev.iload_n (q := 26) dX6_readJoint_25 rfl rfl ?_
      refine Ev.if_eq (tgt := 36) (q := 29) dX6_readJoint_26 (by decide) rfl (fun h61 => ?_) (fun h61 => ?_)
      · skip
        refine Ev.aload_n (q := 37) dX6_readJoint_36 rfl rfl ?_
        refine gR (q := 40) dX6_readJoint_37 gfX6_35 k2 r2_4 rfl rfl ?_
        refine Ev.bipush (q := 42) dX6_readJoint_40 kb_43 rfl ?_
        refine cV1i (q := 45) (d' := d + 5) dX6_readJoint_42 mlX6_152 moX8_isSign mvX8_isSign k22 rfl rfl rfl (Nat.le_refl _) rfl rfl rfl (p_X8_isSign tx N t 43 32 hN hC hT9 h.2 (by decide)) (fun r62 m62 e62 => ?_)
        obtain ⟨rfl, e62⟩ := e62
        obtain rfl := e62.symm
        refine Ev.if_eq (tgt := 57) (q := 48) dX6_readJoint_45 (by decide) rfl (fun h63 => ?_) (fun h63 => ?_)
        · skip
          have hn32 : ¬ t.1 = 32 := by split at h63 <;> omega
          refine Ev.aload_n (q := 58) dX6_readJoint_57 rfl rfl ?_
          refine gR (q := 61) dX6_readJoint_58 gfX6_35 k2 r2_4 rfl rfl ?_
          refine Ev.bipush (q := 63) dX6_readJoint_61 kb_45 rfl ?_
          refine cV1i (q := 66) (d' := d + 5) dX6_readJoint_63 mlX6_152 moX8_isSign mvX8_isSign k22 rfl rfl rfl (Nat.le_refl _) rfl rfl rfl (p_X8_isSign tx N t 45 33 hN hC hT9 h.2 (by decide)) (fun r64 m64 e64 => ?_)
          obtain ⟨rfl, e64⟩ := e64
          obtain rfl := e64.symm
          refine Ev.if_eq (tgt := 78) (q := 69) dX6_readJoint_66 (by decide) rfl (fun h65 => ?_) (fun h65 => ?_)
          · skip
            have hn33 : ¬ t.1 = 33 := by split at h65 <;> omega
            refine Ev.aload_n (q := 79) dX6_readJoint_78 rfl rfl ?_
            refine gR (q := 82) dX6_readJoint_79 gfX6_35 k2 r2_4 rfl rfl ?_
            refine Ev.bipush (q := 84) dX6_readJoint_82 kb_42 rfl ?_
            refine cV1i (q := 87) (d' := d + 5) dX6_readJoint_84 mlX6_152 moX8_isSign mvX8_isSign k22 rfl rfl rfl (Nat.le_refl _) rfl rfl rfl (p_X8_isSign tx N t 42 34 hN hC hT9 h.2 (by decide)) (fun r66 m66 e66 => ?_)
            obtain ⟨rfl, e66⟩ := e66
            obtain rfl := e66.symm
            refine Ev.if_eq (tgt := 99) (q := 90) dX6_readJoint_87 (by decide) rfl (fun h67 => ?_) (fun h67 => ?_)
            · skip
              have hn34 : ¬ t.1 = 34 := by split at h67 <;> omega
              refine Ev.aload_n (q := 100) dX6_readJoint_99 rfl rfl ?_
              refine Ev.iconst (q := 101) dX6_readJoint_100 ki_2 rfl ?_
              refine cV1v (q := 104) (d' := d + 5) dX6_readJoint_101 mlX6_118 moX6_fail mvX6_fail k2 rfl rfl rfl (Nat.le_refl _) rfl rfl rfl (p_X6_fail tx N t 2 hT9 (by decide) h) (fun r68 m68 e68 => ?_)
              obtain ⟨M8, rfl⟩ : ∃ M8, M8 = m68 := ⟨_, rfl⟩
              obtain ⟨b1, b2, b3⟩ := e68
              refine Ev.aload_n (q := 105) dX6_readJoint_104 rfl rfl ?_
              refine gR (q := 108) dX6_readJoint_105 gfX6_35 k2 r2_4 rfl rfl ?_
              refine cV0v (q := 111) (d' := d + 5) dX6_readJoint_108 mlX6_132 moX8_next mvX8_next k22 rfl rfl rfl (Nat.le_refl _) rfl rfl rfl (p_X8_next tx N t.2.2.1 hN (hC.f b2) hT9.ok.2.1 (by rw [b3]; exact h.2.2.2.1)) (fun r121 m121 e121 => ?_)
              obtain ⟨M9, rfl⟩ : ∃ M9, M9 = m121 := ⟨_, rfl⟩
              obtain ⟨y1, y2⟩ := e121
              refine Ev.iload_n (q := 112) dX6_readJoint_111 rfl rfl ?_
              refine Ev.if_ne (tgt := 119) (q := 115) dX6_readJoint_112 (by decide) rfl (fun h122 => ?_) (fun h122 => ?_)
              · skip
                omega
              · skip
                refine Ev.iconst (q := 116) dX6_readJoint_115 ki_1 rfl ?_
                refine Ev.goto (q := 120) dX6_readJoint_116 (by decide) ?_
                refine rZ dX6_readJoint_120 rfl (by decide) ?_
                exact ⟨fun z1 z2 => absurd ⟨z1, z2⟩ hncl, fun z => absurd z hn32, fun z => absurd z hn33, fun z => absurd z hn34, fun _ _ _ _ => ⟨rfl, b1.n y2, (hI.tf lwN b2).tf lwN y2.tf⟩, b2.la1.tr y2.tf.la1⟩
            · skip
              have hk : t.1 = 34 := by split at h67 <;> omega
              refine Ev.aload_n (q := 91) dX6_readJoint_90 rfl rfl ?_
              refine Ev.bipush (q := 93) dX6_readJoint_91 kb_m13 rfl ?_
              refine cV1v (q := 96) (d' := d + 5) dX6_readJoint_93 mlX6_247 moX2_join mvX2_join lwK rfl rfl rfl (Nat.le_refl _) rfl rfl rfl (p_X2_join c cs s (-13) hc hI.1 (by omega) (by omega)) (fun r69 m69 e69 => ?_)
              obtain ⟨M8, rfl⟩ : ∃ M8, M8 = m69 := ⟨_, rfl⟩
              obtain ⟨z1, z2⟩ := e69
              have zl := z2.lb
              refine Ev.goto (q := 104) dX6_readJoint_96 (by decide) ?_
              refine Ev.aload_n (q := 105) dX6_readJoint_104 rfl rfl ?_
              refine gR (q := 108) dX6_readJoint_105 gfX6_35 k2 r2_4 rfl rfl ?_
              refine cV0v (q := 111) (d' := d + 5) dX6_readJoint_108 mlX6_132 moX8_next mvX8_next k22 rfl rfl rfl (Nat.le_refl _) rfl rfl rfl (p_X8_next tx N t.2.2.1 hN (hC.lb lwN zl) hT9.ok.2.1 (by rw [zl 22 2 (sLb_f (by omega))]; exact h.2.2.2.1)) (fun r121 m121 e121 => ?_)
              obtain ⟨M9, rfl⟩ : ∃ M9, M9 = m121 := ⟨_, rfl⟩
              obtain ⟨y1, y2⟩ := e121
              refine Ev.iload_n (q := 112) dX6_readJoint_111 rfl rfl ?_
              refine Ev.if_ne (tgt := 119) (q := 115) dX6_readJoint_112 (by decide) rfl (fun h122 => ?_) (fun h122 => ?_)
              · skip
                omega
              · skip
                refine Ev.iconst (q := 116) dX6_readJoint_115 ki_1 rfl ?_
                refine Ev.goto (q := 120) dX6_readJoint_116 (by decide) ?_
                refine rZ dX6_readJoint_120 rfl (by decide) ?_
                exact ⟨fun _ z => absurd z (by omega), fun z => absurd z (by omega), fun z => absurd z (by omega), fun _ => ⟨rfl, OKc_nx (h.lb lwN zl).1 y1 y2, LI5.tf lwN ⟨z1, by rw [z2 c 1 (sEm_f (by omega))]; exact hI.2.1, by rw [z2 c 0 (sEm_f (by omega))]; exact hI.2.2⟩ y2.tf⟩, fun _ z1 z2 z3 => absurd hk z3, zl.la2.tr y2.tf.la1⟩
          · skip
            have hk : t.1 = 33 := by split at h65 <;> omega
            refine Ev.aload_n (q := 70) dX6_readJoint_69 rfl rfl ?_
            refine Ev.bipush (q := 72) dX6_readJoint_70 kb_m12 rfl ?_
            refine cV1v (q := 75) (d' := d + 5) dX6_readJoint_72 mlX6_247 moX2_join mvX2_join lwK rfl rfl rfl (Nat.le_refl _) rfl rfl rfl (p_X2_join c cs s (-12) hc hI.1 (by omega) (by omega)) (fun r70 m70 e70 => ?_)
            obtain ⟨M8, rfl⟩ : ∃ M8, M8 = m70 := ⟨_, rfl⟩
            obtain ⟨z1, z2⟩ := e70
            have zl := z2.lb
            refine Ev.goto (q := 104) dX6_readJoint_75 (by decide) ?_
            refine Ev.aload_n (q := 105) dX6_readJoint_104 rfl rfl ?_
            refine gR (q := 108) dX6_readJoint_105 gfX6_35 k2 r2_4 rfl rfl ?_
            refine cV0v (q := 111) (d' := d + 5) dX6_readJoint_108 mlX6_132 moX8_next mvX8_next k22 rfl rfl rfl (Nat.le_refl _) rfl rfl rfl (p_X8_next tx N t.2.2.1 hN (hC.lb lwN zl) hT9.ok.2.1 (by rw [zl 22 2 (sLb_f (by omega))]; exact h.2.2.2.1)) (fun r121 m121 e121 => ?_)
            obtain ⟨M9, rfl⟩ : ∃ M9, M9 = m121 := ⟨_, rfl⟩
            obtain ⟨y1, y2⟩ := e121
            refine Ev.iload_n (q := 112) dX6_readJoint_111 rfl rfl ?_
            refine Ev.if_ne (tgt := 119) (q := 115) dX6_readJoint_112 (by decide) rfl (fun h122 => ?_) (fun h122 => ?_)
            · skip
              omega
            · skip
              refine Ev.iconst (q := 116) dX6_readJoint_115 ki_1 rfl ?_
              refine Ev.goto (q := 120) dX6_readJoint_116 (by decide) ?_
              refine rZ dX6_readJoint_120 rfl (by decide) ?_
              exact ⟨fun _ z => absurd z (by omega), fun z => absurd z (by omega), fun _ => ⟨rfl, OKc_nx (h.lb lwN zl).1 y1 y2, LI5.tf lwN ⟨z1, by rw [z2 c 1 (sEm_f (by omega))]; exact hI.2.1, by rw [z2 c 0 (sEm_f (by omega))]; exact hI.2.2⟩ y2.tf⟩, fun z => absurd z (by omega), fun _ z1 z2 z3 => absurd hk z2, zl.la2.tr y2.tf.la1⟩
        · skip
          have hk : t.1 = 32 := by split at h63 <;> omega
          refine Ev.aload_n (q := 49) dX6_readJoint_48 rfl rfl ?_
          refine Ev.bipush (q := 51) dX6_readJoint_49 kb_m11 rfl ?_
          refine cV1v (q := 54) (d' := d + 5) dX6_readJoint_51 mlX6_247 moX2_join mvX2_join lwK rfl rfl rfl (Nat.le_refl _) rfl rfl rfl (p_X2_join c cs s (-11) hc hI.1 (by omega) (by omega)) (fun r71 m71 e71 => ?_)
          obtain ⟨M8, rfl⟩ : ∃ M8, M8 = m71 := ⟨_, rfl⟩
          obtain ⟨z1, z2⟩ := e71
          have zl := z2.lb
          refine Ev.goto (q := 104) dX6_readJoint_54 (by decide) ?_
          refine Ev.aload_n (q := 105) dX6_readJoint_104 rfl rfl ?_
          refine gR (q := 108) dX6_readJoint_105 gfX6_35 k2 r2_4 rfl rfl ?_
          refine cV0v (q := 111) (d' := d + 5) dX6_readJoint_108 mlX6_132 moX8_next mvX8_next k22 rfl rfl rfl (Nat.le_refl _) rfl rfl rfl (p_X8_next tx N t.2.2.1 hN (hC.lb lwN zl) hT9.ok.2.1 (by rw [zl 22 2 (sLb_f (by omega))]; exact h.2.2.2.1)) (fun r121 m121 e121 => ?_)
          obtain ⟨M9, rfl⟩ : ∃ M9, M9 = m121 := ⟨_, rfl⟩
          obtain ⟨y1, y2⟩ := e121
          refine Ev.iload_n (q := 112) dX6_readJoint_111 rfl rfl ?_
          refine Ev.if_ne (tgt := 119) (q := 115) dX6_readJoint_112 (by decide) rfl (fun h122 => ?_) (fun h122 => ?_)
          · skip
            omega
          · skip
            refine Ev.iconst (q := 116) dX6_readJoint_115 ki_1 rfl ?_
            refine Ev.goto (q := 120) dX6_readJoint_116 (by decide) ?_
            refine rZ dX6_readJoint_120 rfl (by decide) ?_
            exact ⟨fun _ z => absurd z (by omega), fun _ => ⟨rfl, OKc_nx (h.lb lwN zl).1 y1 y2, LI5.tf lwN ⟨z1, by rw [z2 c 1 (sEm_f (by omega))]; exact hI.2.1, by rw [z2 c 0 (sEm_f (by omega))]; exact hI.2.2⟩ y2.tf⟩, fun z => absurd z (by omega), fun z => absurd z (by omega), fun _ z1 z2 z3 => absurd hk z1, zl.la2.tr y2.tf.la1⟩
      · skip
        omega
    · skip
      have h36 : t.1 = 36 := by split at h3 <;> omega
      refine Ev.iconst (q := 20) dX6_readJoint_19 ki_1 rfl ?_
      refine Ev.goto (q := 24) dX6_readJoint_20 (by decide) ?_
      refine istore_n_2 (q := 25) dX6_readJoint_24 rfl rfl rfl ?_
      refine Ev.iload_n (q := 26) dX6_readJoint_25 rfl rfl ?_
      refine Ev.if_eq (tgt := 36) (q := 29) dX6_readJoint_26 (by decide) rfl (fun h61 => ?_) (fun h61 => ?_)
      · skip
        omega
      · skip
        refine Ev.aload_n (q := 30) dX6_readJoint_29 rfl rfl ?_
        refine cV0v (q := 33) (d' := d + 5) dX6_readJoint_30 mlX6_244 moX2_close mvX2_close lwK rfl rfl rfl (Nat.le_refl _) rfl rfl rfl (p_X2_close c cs s hc hI.1 (by omega) (by omega) (hin hd0)) (fun r62 m62 e62 => ?_)
        obtain ⟨M8, rfl⟩ : ∃ M8, M8 = m62 := ⟨_, rfl⟩
        obtain ⟨z1, z2, z3, z4⟩ := e62
        have zl := z3
        refine Ev.goto (q := 104) dX6_readJoint_33 (by decide) ?_
        refine Ev.aload_n (q := 105) dX6_readJoint_104 rfl rfl ?_
        refine gR (q := 108) dX6_readJoint_105 gfX6_35 k2 r2_4 rfl rfl ?_
        refine cV0v (q := 111) (d' := d + 5) dX6_readJoint_108 mlX6_132 moX8_next mvX8_next k22 rfl rfl rfl (Nat.le_refl _) rfl rfl rfl (p_X8_next tx N t.2.2.1 hN (hC.lb lwN zl) hT9.ok.2.1 (by rw [zl 22 2 (sLb_f (by omega))]; exact h.2.2.2.1)) (fun r121 m121 e121 => ?_)
        obtain ⟨M9, rfl⟩ : ∃ M9, M9 = m121 := ⟨_, rfl⟩
        obtain ⟨y1, y2⟩ := e121
        refine Ev.iload_n (q := 112) dX6_readJoint_111 rfl rfl ?_
        refine Ev.if_ne (tgt := 119) (q := 115) dX6_readJoint_112 (by decide) rfl (fun h122 => ?_) (fun h122 => ?_)
        · skip
          refine Ev.iconst (q := 120) dX6_readJoint_119 ki_0 rfl ?_
          refine rZ dX6_readJoint_120 rfl (by decide) ?_
          exact ⟨fun _ _ => ⟨rfl, OKc_nx (h.lb lwN zl).1 y1 y2, LI5.tf lwN ⟨z1, by rw [z2, hI.2.1, w32_of (by omega) (by omega)]; omega, by rw [z4]; exact hI.2.2⟩ y2.tf⟩, fun z => absurd z (by omega), fun z => absurd z (by omega), fun z => absurd z (by omega), fun z => absurd ⟨hd0, h36⟩ z, zl.la2.tr y2.tf.la1⟩
        · skip
          omega
/-! ===== the class: a law is read as the reference reads it ===== -/
def isM (l : List Int) : Prop := l = [] ∨ l = [-13]
def isA (l : List Int) : Prop := l = [] ∨ l = [-11] ∨ l = [-12]
def isB (b : List Int) : Prop := b = [] ∨ ∃ r, b = -14 :: r
def noT (s : List Int) : Prop := ∀ x r, s = x :: r → ¬ x = -13
theorem flJ_times {pl s0 : List Int} (h1 : isM pl) (h2 : noT s0) : flJ (-13) (pl ++ s0) = (pl, s0) := by
  have h3 : flJ (-13) s0 = ([], s0) := by
    cases s0 with
    | nil => rfl
    | cons x r => exact flJ_stop (Or.inr (fun z => z.elim (h2 x r rfl) (fun y => y rfl)))
  rcases h1 with rfl | rfl
  · exact h3
  · show flJ (-13) (-13 :: s0) = _
    rw [flJ_go (by decide), h3]
theorem flJ_b {op : Int} {b : List Int} (h : isB b) : flJ op b = ([], b) := by
  rcases h with rfl | ⟨r, rfl⟩
  · rfl
  · exact flJ_stop (Or.inl rfl)
theorem flJ_add {op : Int} {pl pa b : List Int} (h1 : isM pl) (h2 : isA pa) (h3 : isB b) (h4 : op ≠ -13) : flJ op (pl ++ (pa ++ b)) = (pl ++ pa, b) := by
  have e : flJ op (pa ++ b) = (pa, b) := by
    rcases h2 with rfl | rfl | rfl
    · exact flJ_b h3
    · show flJ op (-11 :: b) = _
      rw [flJ_go (by simp [h4]), flJ_b h3]
    · show flJ op (-12 :: b) = _
      rw [flJ_go (by simp [h4]), flJ_b h3]
  rcases h1 with rfl | rfl
  · exact e
  · show flJ op (-13 :: (pa ++ b)) = _
    rw [flJ_go (by simp), e]
    rfl
theorem flO_all {pl pa r : List Int} (h1 : isM pl) (h2 : isA pa) : flO (pl ++ (pa ++ (-14 :: r))) = (pl ++ pa, -14 :: r) := by
  have e0 : flO (-14 :: r) = ([], -14 :: r) := flO_stop rfl
  have e : flO (pa ++ (-14 :: r)) = (pa, -14 :: r) := by
    rcases h2 with rfl | rfl | rfl
    · exact e0
    · show flO (-11 :: (-14 :: r)) = _
      rw [flO_go (by decide), e0]
    · show flO (-12 :: (-14 :: r)) = _
      rw [flO_go (by decide), e0]
  rcases h1 with rfl | rfl
  · exact e
  · show flO (-13 :: (pa ++ (-14 :: r))) = _
    rw [flO_go (by decide), e]
    rfl
theorem ps_end {tx : Nat → Int} {N law : Nat} : ∀ (n mode deep : Nat) (t : Tok) (cs : List Int) (t' : Tok), mode ≤ 3 → (mode = 1 → ¬ t.1 = 34) → tOK tx N t → 6 * (N - t.2.1) + (if mode = 0 then 3 else if mode = 2 then 2 else 1) ≤ n → psR tx N law n mode deep t = .inr (cs, t') → ¬ t'.1 = 34 ∧ (mode < 2 → ¬ t'.1 = 32 ∧ ¬ t'.1 = 33) := by
  intro n
  induction n with
  | zero => intro mode deep t cs t' hm hk hO hn; split at hn <;> (try split at hn) <;> omega
  | succ n ih =>
    intro mode deep t cs t' hm hk hO hn he
    have hle := tO_le hO
    rcases (show mode = 0 ∨ mode = 1 ∨ mode = 2 ∨ mode = 3 by omega) with rfl | rfl | rfl | rfl
    · rw [ps0] at he
      obtain ⟨a, h1, he⟩ := bE_inv he
      obtain ⟨b, h2, he⟩ := bE_inv he
      simp only [if_true] at hn
      obtain ⟨q1, q2, q3⟩ := ps_len n 2 deep t a.1 a.2 (by omega) hO (by simp; omega) h1
      have := tO_le q1
      have r1 := ih 2 deep t a.1 a.2 (by omega) (by omega) hO (by simp; omega) h1
      have r2 := ih 1 deep a.2 b.1 b.2 (by omega) (fun _ => r1.1) q1 (by simp; omega) h2
      cases he
      exact ⟨r2.1, fun _ => r2.2 (by omega)⟩
    · rw [ps1] at he
      by_cases hpm : t.1 = 32 ∨ t.1 = 33
      · rw [if_pos hpm] at he
        obtain ⟨a, h1, he⟩ := bE_inv he
        obtain ⟨b, h2, he⟩ := bE_inv he
        have hx := nx_lt hO (show ¬ t.1 = 24 by omega)
        have hO1 := (tOK_nx hO).1
        have hle1 := tO_le hO1
        simp at hn
        obtain ⟨q1, q2, q3⟩ := ps_len n 2 deep _ a.1 a.2 (by omega) hO1 (by simp; omega) h1
        have := tO_le q1
        have r1 := ih 2 deep _ a.1 a.2 (by omega) (by omega) hO1 (by simp; omega) h1
        have r2 := ih 1 deep a.2 b.1 b.2 (by omega) (fun _ => r1.1) q1 (by simp; omega) h2
        cases he
        exact ⟨r2.1, fun _ => r2.2 (by omega)⟩
      · rw [if_neg hpm] at he
        cases he
        exact ⟨hk rfl, fun _ => by omega⟩
    · rw [ps2] at he
      obtain ⟨a, h1, he⟩ := bE_inv he
      obtain ⟨b, h2, he⟩ := bE_inv he
      simp at hn
      obtain ⟨q1, q2, q3⟩ := ps_len n 4 deep t a.1 a.2 (by omega) hO (by simp; omega) h1
      have := tO_le q1
      have r2 := ih 3 deep a.2 b.1 b.2 (by omega) (by omega) q1 (by simp; omega) h2
      cases he
      exact ⟨r2.1, fun z => by omega⟩
    · rw [ps3] at he
      by_cases h34 : t.1 = 34
      · rw [if_pos h34] at he
        obtain ⟨a, h1, he⟩ := bE_inv he
        obtain ⟨b, h2, he⟩ := bE_inv he
        have hx := nx_lt hO (show ¬ t.1 = 24 by omega)
        have hO1 := (tOK_nx hO).1
        have hle1 := tO_le hO1
        simp at hn
        obtain ⟨q1, q2, q3⟩ := ps_len n 4 deep _ a.1 a.2 (by omega) hO1 (by simp; omega) h1
        have := tO_le q1
        have r2 := ih 3 deep a.2 b.1 b.2 (by omega) (by omega) q1 (by simp; omega) h2
        cases he
        exact ⟨r2.1, fun z => by omega⟩
      · rw [if_neg h34] at he
        cases he
        exact ⟨h34, fun z => by omega⟩
