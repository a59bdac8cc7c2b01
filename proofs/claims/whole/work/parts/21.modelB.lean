/-! ===== the reference: feet and rides ===== -/
set_option maxRecDepth 4000 in
theorem l_foot_up {Γ : Gm} {d : Nat} {m0 : Mem} (p f t : Nat) (hp : p < 8) (hf : f < 12) (ht : t < 12) (hft : f < t) (hlaw : LawOk (m0 212) 0) (hld : 0 ≤ m0 212 (36 + p) ∧ m0 212 (36 + p) ≤ 99) (hag : 0 ≤ m0 212 (44 + p) ∧ m0 212 (44 + p) ≤ 99) : ∀ (n i : Nat), i + n = t - f → ∀ (m : Mem), Fr s1617 m0 m → Em Γ (d + 2) MX12_footOf (fun r m' => r = footUp (m0 212) p f (t - f) ∧ Fr s1617 m0 m') 18 [rv 211, iv p, iv f, iv t, iv (footUp (m0 212) p f i), iv (1), iv ((f + i : Nat) : Int)] [] m := by
  intro n
  induction n with
  | zero =>
    intro i hi m hF
    obtain rfl : i = t - f := by omega
    refine Ev.iload (q := 20) dX12_footOf_18 rfl rfl ?_
    refine Ev.iload_n (q := 21) dX12_footOf_20 rfl rfl ?_
    refine Ev.icmp_eq (tgt := 122) (q := 24) dX12_footOf_21 (by decide) rfl (fun h1 => ?_) (fun h1 => ?_)
    · skip
      refine Ev.iload (q := 124) dX12_footOf_122 rfl rfl ?_
      refine rI dX12_footOf_124 rfl ?_
      exact ⟨rfl, hF⟩
    · skip
      omega
  | succ n ih =>
    intro i hi m hF
    refine Ev.iload (q := 20) dX12_footOf_18 rfl rfl ?_
    refine Ev.iload_n (q := 21) dX12_footOf_20 rfl rfl ?_
    refine Ev.icmp_eq (tgt := 122) (q := 24) dX12_footOf_21 (by decide) rfl (fun h1 => ?_) (fun h1 => ?_)
    · skip
      omega
    · skip
      refine Ev.aload_n (q := 25) dX12_footOf_24 rfl rfl ?_
      refine gR (q := 28) dX12_footOf_25 gfX12_33 k211 r211_17 rfl rfl ?_
      refine Ev.iconst (q := 29) dX12_footOf_28 ki_0 rfl ?_
      refine Ev.iload (q := 31) dX12_footOf_29 rfl rfl ?_
      refine sI (q := 32) (k := 0) dX12_footOf_31 k217 (by rfl) (by decide) rfl ?_
      refine Ev.aload_n (q := 33) dX12_footOf_32 rfl rfl ?_
      refine gR (q := 36) dX12_footOf_33 gfX12_33 k211 r211_17 rfl rfl ?_
      refine Ev.iconst (q := 37) dX12_footOf_36 ki_1 rfl ?_
      refine Ev.iload_n (q := 38) dX12_footOf_37 rfl rfl ?_
      refine Ev.iload_n (q := 39) dX12_footOf_38 rfl rfl ?_
      refine Ev.icmp_ge (tgt := 46) (q := 42) dX12_footOf_39 (by decide) rfl (fun h2 => ?_) (fun h2 => ?_)
      · skip
        omega
      · skip
        refine Ev.iconst (q := 43) dX12_footOf_42 ki_1 rfl ?_
        refine Ev.goto (q := 47) dX12_footOf_43 (by decide) ?_
        refine sI (q := 48) (k := 1) dX12_footOf_47 k217 (by rfl) (by decide) rfl ?_
        refine Ev.aload_n (q := 49) dX12_footOf_48 rfl rfl ?_
        refine gR (q := 52) dX12_footOf_49 gfX12_33 k211 r211_17 rfl rfl ?_
        refine Ev.iconst (q := 53) dX12_footOf_52 ki_2 rfl ?_
        refine Ev.aload_n (q := 54) dX12_footOf_53 rfl rfl ?_
        refine gR (q := 57) dX12_footOf_54 gfX12_13 k211 r211_1 rfl rfl ?_
        refine Ev.bipush (q := 59) dX12_footOf_57 kb_36 rfl ?_
        refine Ev.iload_n (q := 60) dX12_footOf_59 rfl rfl ?_
        refine Ev.iadd (q := 61) dX12_footOf_60 rfl ?_
        refine aI (q := 62) (k := 36 + p) dX12_footOf_61 k212 (by first | rfl | omega | (simp (disch := omega) only [w32_of]; omega)) (by omega) rfl ?_
        rw [up_o _ _ (by decide), up_o _ _ (by decide)]
        refine sI (q := 63) (k := 2) dX12_footOf_62 k217 (by rfl) (by decide) rfl ?_
        refine Ev.aload_n (q := 64) dX12_footOf_63 rfl rfl ?_
        refine gR (q := 67) dX12_footOf_64 gfX12_33 k211 r211_17 rfl rfl ?_
        refine Ev.iconst (q := 68) dX12_footOf_67 ki_3 rfl ?_
        refine Ev.aload_n (q := 69) dX12_footOf_68 rfl rfl ?_
        refine gR (q := 72) dX12_footOf_69 gfX12_13 k211 r211_1 rfl rfl ?_
        refine Ev.bipush (q := 74) dX12_footOf_72 kb_44 rfl ?_
        refine Ev.iload_n (q := 75) dX12_footOf_74 rfl rfl ?_
        refine Ev.iadd (q := 76) dX12_footOf_75 rfl ?_
        refine aI (q := 77) (k := 44 + p) dX12_footOf_76 k212 (by first | rfl | omega | (simp (disch := omega) only [w32_of]; omega)) (by omega) rfl ?_
        rw [up_o _ _ (by decide), up_o _ _ (by decide), up_o _ _ (by decide)]
        refine sI (q := 78) (k := 3) dX12_footOf_77 k217 (by rfl) (by decide) rfl ?_
        obtain ⟨M1, hM1⟩ : ∃ M1, M1 = up (up (up (up m 217 0 ((f + i : Nat) : Int)) 217 1 1) 217 2 (m 212 (36 + p))) 217 3 (m 212 (44 + p)) := ⟨_, rfl⟩
        rw [← hM1]
        have e0 : ∀ k, M1 212 k = m0 212 k := fun k => by rw [hM1, up_o _ _ (by decide), up_o _ _ (by decide), up_o _ _ (by decide), up_o _ _ (by decide)]; exact hF _ _ rfl
        have ew : ∀ j, alw 0 j = true → M1 217 j = ftW 1 (m0 212 (36 + p)) (m0 212 (44 + p)) (f + i) j := fun j hj => by
          rw [hM1, hF 212 _ rfl, hF 212 _ rfl]
          unfold ftW
          have hj' : j ≤ 3 := by simpa [alw] using hj
          rcases (show j = 0 ∨ j = 1 ∨ j = 2 ∨ j = 3 by omega) with rfl | rfl | rfl | rfl <;> simp (disch := omega) only [up_k, up_eq] <;> rfl
        have hF1 : Fr s1617 m0 M1 := by rw [hM1]; exact (((hF.up rfl).up rfl).up rfl).up rfl
        refine Ev.iload (q := 80) dX12_footOf_78 rfl rfl ?_
        refine Ev.aload_n (q := 81) dX12_footOf_80 rfl rfl ?_
        refine gR (q := 84) dX12_footOf_81 gfX12_13 k211 r211_1 rfl rfl ?_
        refine Ev.iconst (q := 85) dX12_footOf_84 ki_4 rfl ?_
        refine aI (q := 86) (k := 4) dX12_footOf_85 k212 (by rfl) (by decide) rfl ?_
        rw [e0]
        refine Ev.if_ne (tgt := 104) (q := 89) dX12_footOf_86 (by decide) rfl (fun h3 => ?_) (fun h3 => ?_)
        · skip
          obtain ⟨fr, N, q1, q2, q3, q4⟩ := (hlaw.resolve_left h3).2
          refine Ev.aload_n (q := 105) dX12_footOf_104 rfl rfl ?_
          refine Ev.iconst (q := 106) dX12_footOf_105 ki_0 rfl ?_
          refine cV1i (q := 109) (d' := d + 1) dX12_footOf_106 mlX12_188 moX12_reckons mvX12_reckons k211 rfl rfl rfl (Nat.le_refl _) rfl rfl rfl (p_X12_reckons (alw 0) 0 fr N (by decide) (by simp only [e0]; exact q4) q3 (fun j _ hj => by rw [ew j hj]; unfold ftW; have q5 := hld; have q6 := hag; repeat (first | omega | split)) ((e0 6).trans q1) ((e0 8).trans q2)) (fun r4 m4 e4 => ?_)
          obtain ⟨e4, hf9⟩ := e4
          have hv9 : r4 = stepV (m0 212) p (f + i) 1 := by
            rw [e4]
            unfold stepV lawOf
            rw [if_neg (by assumption), q1, q2]
            simp only [e0, Int.toNat_natCast]
            exact lawV_congr (al := alw 0) q4 (fun j _ hj => ew j hj)
          clear e4
          subst hv9
          have hval : stepV (m0 212) p (f + i) 1 = stepV (m0 212) p (f + i) 1 := rfl
          refine Ev.iadd (q := 110) dX12_footOf_109 rfl ?_
          refine istore_4 (q := 112) dX12_footOf_110 rfl rfl rfl ?_
          refine Ev.iload (q := 114) dX12_footOf_112 rfl rfl ?_
          refine Ev.iload (q := 116) dX12_footOf_114 rfl rfl ?_
          refine Ev.iadd (q := 117) dX12_footOf_116 rfl ?_
          refine istore_6 (q := 119) dX12_footOf_117 rfl rfl rfl ?_
          refine Ev.goto (q := 18) dX12_footOf_119 (by decide) ?_
          have hb1 := footUp_bd (m0 212) p f i
          have hb2 := stepV_bd (m0 212) p (f + i) 1
          rw [show w32 (footUp (m0 212) p f i + stepV (m0 212) p (f + i) 1) = footUp (m0 212) p f (i + 1) by
            rw [w32_of (by rw [hval]; omega) (by rw [hval]; omega), hval]
            rfl]
          rw [show w32 (((f + i : Nat) : Int) + (1)) = ((f + (i + 1) : Nat) : Int) by rw [w32_of (by omega) (by omega)]; omega]
          exact ih (i + 1) (by omega) _ (hF1.tr (hf9.mono (fun a k q => by unfold s1617 at q; unfold s216; simp at q ⊢; exact q.1)))
        · skip
          refine Ev.iload_n (q := 90) dX12_footOf_89 rfl rfl ?_
          refine Ev.iload_n (q := 91) dX12_footOf_90 rfl rfl ?_
          refine Ev.icmp_ge (tgt := 99) (q := 94) dX12_footOf_91 (by decide) rfl (fun h5 => ?_) (fun h5 => ?_)
          · skip
            omega
          · skip
            refine Ev.bipush (q := 96) dX12_footOf_94 kb_10 rfl ?_
            refine Ev.goto (q := 109) dX12_footOf_96 (by decide) ?_
            refine Ev.iadd (q := 110) dX12_footOf_109 rfl ?_
            refine istore_4 (q := 112) dX12_footOf_110 rfl rfl rfl ?_
            refine Ev.iload (q := 114) dX12_footOf_112 rfl rfl ?_
            refine Ev.iload (q := 116) dX12_footOf_114 rfl rfl ?_
            refine Ev.iadd (q := 117) dX12_footOf_116 rfl ?_
            refine istore_6 (q := 119) dX12_footOf_117 rfl rfl rfl ?_
            refine Ev.goto (q := 18) dX12_footOf_119 (by decide) ?_
            have hval : (10 : Int) = stepV (m0 212) p (f + i) 1 := by unfold stepV; rw [if_pos (by assumption)]; simp
            have hb1 := footUp_bd (m0 212) p f i
            have hb2 := stepV_bd (m0 212) p (f + i) 1
            rw [show w32 (footUp (m0 212) p f i + 10) = footUp (m0 212) p f (i + 1) by
              rw [w32_of (by rw [hval]; omega) (by rw [hval]; omega), hval]
              rfl]
            rw [show w32 (((f + i : Nat) : Int) + (1)) = ((f + (i + 1) : Nat) : Int) by rw [w32_of (by omega) (by omega)]; omega]
            exact ih (i + 1) (by omega) _ hF1
set_option maxRecDepth 4000 in
theorem l_foot_dn {Γ : Gm} {d : Nat} {m0 : Mem} (p f t : Nat) (hp : p < 8) (hf : f < 12) (ht : t < 12) (hft : t ≤ f) (hlaw : LawOk (m0 212) 0) (hld : 0 ≤ m0 212 (36 + p) ∧ m0 212 (36 + p) ≤ 99) (hag : 0 ≤ m0 212 (44 + p) ∧ m0 212 (44 + p) ≤ 99) : ∀ (n i : Nat), i + n = f - t → ∀ (m : Mem), Fr s1617 m0 m → Em Γ (d + 2) MX12_footOf (fun r m' => r = footDn (m0 212) p f (f - t) ∧ Fr s1617 m0 m') 18 [rv 211, iv p, iv f, iv t, iv (footDn (m0 212) p f i), iv (-1), iv ((f - i : Nat) : Int)] [] m := by
  intro n
  induction n with
  | zero =>
    intro i hi m hF
    obtain rfl : i = f - t := by omega
    refine Ev.iload (q := 20) dX12_footOf_18 rfl rfl ?_
    refine Ev.iload_n (q := 21) dX12_footOf_20 rfl rfl ?_
    refine Ev.icmp_eq (tgt := 122) (q := 24) dX12_footOf_21 (by decide) rfl (fun h1 => ?_) (fun h1 => ?_)
    · skip
      refine Ev.iload (q := 124) dX12_footOf_122 rfl rfl ?_
      refine rI dX12_footOf_124 rfl ?_
      exact ⟨rfl, hF⟩
    · skip
      omega
  | succ n ih =>
    intro i hi m hF
    refine Ev.iload (q := 20) dX12_footOf_18 rfl rfl ?_
    refine Ev.iload_n (q := 21) dX12_footOf_20 rfl rfl ?_
    refine Ev.icmp_eq (tgt := 122) (q := 24) dX12_footOf_21 (by decide) rfl (fun h1 => ?_) (fun h1 => ?_)
    · skip
      omega
    · skip
      refine Ev.aload_n (q := 25) dX12_footOf_24 rfl rfl ?_
      refine gR (q := 28) dX12_footOf_25 gfX12_33 k211 r211_17 rfl rfl ?_
      refine Ev.iconst (q := 29) dX12_footOf_28 ki_0 rfl ?_
      refine Ev.iload (q := 31) dX12_footOf_29 rfl rfl ?_
      refine sI (q := 32) (k := 0) dX12_footOf_31 k217 (by rfl) (by decide) rfl ?_
      refine Ev.aload_n (q := 33) dX12_footOf_32 rfl rfl ?_
      refine gR (q := 36) dX12_footOf_33 gfX12_33 k211 r211_17 rfl rfl ?_
      refine Ev.iconst (q := 37) dX12_footOf_36 ki_1 rfl ?_
      refine Ev.iload_n (q := 38) dX12_footOf_37 rfl rfl ?_
      refine Ev.iload_n (q := 39) dX12_footOf_38 rfl rfl ?_
      refine Ev.icmp_ge (tgt := 46) (q := 42) dX12_footOf_39 (by decide) rfl (fun h2 => ?_) (fun h2 => ?_)
      · skip
        refine Ev.iconst (q := 47) dX12_footOf_46 ki_0 rfl ?_
        refine sI (q := 48) (k := 1) dX12_footOf_47 k217 (by rfl) (by decide) rfl ?_
        refine Ev.aload_n (q := 49) dX12_footOf_48 rfl rfl ?_
        refine gR (q := 52) dX12_footOf_49 gfX12_33 k211 r211_17 rfl rfl ?_
        refine Ev.iconst (q := 53) dX12_footOf_52 ki_2 rfl ?_
        refine Ev.aload_n (q := 54) dX12_footOf_53 rfl rfl ?_
        refine gR (q := 57) dX12_footOf_54 gfX12_13 k211 r211_1 rfl rfl ?_
        refine Ev.bipush (q := 59) dX12_footOf_57 kb_36 rfl ?_
        refine Ev.iload_n (q := 60) dX12_footOf_59 rfl rfl ?_
        refine Ev.iadd (q := 61) dX12_footOf_60 rfl ?_
        refine aI (q := 62) (k := 36 + p) dX12_footOf_61 k212 (by first | rfl | omega | (simp (disch := omega) only [w32_of]; omega)) (by omega) rfl ?_
        rw [up_o _ _ (by decide), up_o _ _ (by decide)]
        refine sI (q := 63) (k := 2) dX12_footOf_62 k217 (by rfl) (by decide) rfl ?_
        refine Ev.aload_n (q := 64) dX12_footOf_63 rfl rfl ?_
        refine gR (q := 67) dX12_footOf_64 gfX12_33 k211 r211_17 rfl rfl ?_
        refine Ev.iconst (q := 68) dX12_footOf_67 ki_3 rfl ?_
        refine Ev.aload_n (q := 69) dX12_footOf_68 rfl rfl ?_
        refine gR (q := 72) dX12_footOf_69 gfX12_13 k211 r211_1 rfl rfl ?_
        refine Ev.bipush (q := 74) dX12_footOf_72 kb_44 rfl ?_
        refine Ev.iload_n (q := 75) dX12_footOf_74 rfl rfl ?_
        refine Ev.iadd (q := 76) dX12_footOf_75 rfl ?_
        refine aI (q := 77) (k := 44 + p) dX12_footOf_76 k212 (by first | rfl | omega | (simp (disch := omega) only [w32_of]; omega)) (by omega) rfl ?_
        rw [up_o _ _ (by decide), up_o _ _ (by decide), up_o _ _ (by decide)]
        refine sI (q := 78) (k := 3) dX12_footOf_77 k217 (by rfl) (by decide) rfl ?_
        obtain ⟨M1, hM1⟩ : ∃ M1, M1 = up (up (up (up m 217 0 ((f - i : Nat) : Int)) 217 1 0) 217 2 (m 212 (36 + p))) 217 3 (m 212 (44 + p)) := ⟨_, rfl⟩
        rw [← hM1]
        have e0 : ∀ k, M1 212 k = m0 212 k := fun k => by rw [hM1, up_o _ _ (by decide), up_o _ _ (by decide), up_o _ _ (by decide), up_o _ _ (by decide)]; exact hF _ _ rfl
        have ew : ∀ j, alw 0 j = true → M1 217 j = ftW 0 (m0 212 (36 + p)) (m0 212 (44 + p)) (f - i) j := fun j hj => by
          rw [hM1, hF 212 _ rfl, hF 212 _ rfl]
          unfold ftW
          have hj' : j ≤ 3 := by simpa [alw] using hj
          rcases (show j = 0 ∨ j = 1 ∨ j = 2 ∨ j = 3 by omega) with rfl | rfl | rfl | rfl <;> simp (disch := omega) only [up_k, up_eq] <;> rfl
        have hF1 : Fr s1617 m0 M1 := by rw [hM1]; exact (((hF.up rfl).up rfl).up rfl).up rfl
        refine Ev.iload (q := 80) dX12_footOf_78 rfl rfl ?_
        refine Ev.aload_n (q := 81) dX12_footOf_80 rfl rfl ?_
        refine gR (q := 84) dX12_footOf_81 gfX12_13 k211 r211_1 rfl rfl ?_
        refine Ev.iconst (q := 85) dX12_footOf_84 ki_4 rfl ?_
        refine aI (q := 86) (k := 4) dX12_footOf_85 k212 (by rfl) (by decide) rfl ?_
        rw [e0]
        refine Ev.if_ne (tgt := 104) (q := 89) dX12_footOf_86 (by decide) rfl (fun h3 => ?_) (fun h3 => ?_)
        · skip
          obtain ⟨fr, N, q1, q2, q3, q4⟩ := (hlaw.resolve_left h3).2
          refine Ev.aload_n (q := 105) dX12_footOf_104 rfl rfl ?_
          refine Ev.iconst (q := 106) dX12_footOf_105 ki_0 rfl ?_
          refine cV1i (q := 109) (d' := d + 1) dX12_footOf_106 mlX12_188 moX12_reckons mvX12_reckons k211 rfl rfl rfl (Nat.le_refl _) rfl rfl rfl (p_X12_reckons (alw 0) 0 fr N (by decide) (by simp only [e0]; exact q4) q3 (fun j _ hj => by rw [ew j hj]; unfold ftW; have q5 := hld; have q6 := hag; repeat (first | omega | split)) ((e0 6).trans q1) ((e0 8).trans q2)) (fun r4 m4 e4 => ?_)
          obtain ⟨e4, hf9⟩ := e4
          have hv9 : r4 = stepV (m0 212) p (f - i) 0 := by
            rw [e4]
            unfold stepV lawOf
            rw [if_neg (by assumption), q1, q2]
            simp only [e0, Int.toNat_natCast]
            exact lawV_congr (al := alw 0) q4 (fun j _ hj => ew j hj)
          clear e4
          subst hv9
          have hval : stepV (m0 212) p (f - i) 0 = stepV (m0 212) p (f - i) 0 := rfl
          refine Ev.iadd (q := 110) dX12_footOf_109 rfl ?_
          refine istore_4 (q := 112) dX12_footOf_110 rfl rfl rfl ?_
          refine Ev.iload (q := 114) dX12_footOf_112 rfl rfl ?_
          refine Ev.iload (q := 116) dX12_footOf_114 rfl rfl ?_
          refine Ev.iadd (q := 117) dX12_footOf_116 rfl ?_
          refine istore_6 (q := 119) dX12_footOf_117 rfl rfl rfl ?_
          refine Ev.goto (q := 18) dX12_footOf_119 (by decide) ?_
          have hb1 := footDn_bd (m0 212) p f i
          have hb2 := stepV_bd (m0 212) p (f - i) 0
          rw [show w32 (footDn (m0 212) p f i + stepV (m0 212) p (f - i) 0) = footDn (m0 212) p f (i + 1) by
            rw [w32_of (by rw [hval]; omega) (by rw [hval]; omega), hval]
            rfl]
          rw [show w32 (((f - i : Nat) : Int) + (-1)) = ((f - (i + 1) : Nat) : Int) by rw [w32_of (by omega) (by omega)]; omega]
          exact ih (i + 1) (by omega) _ (hF1.tr (hf9.mono (fun a k q => by unfold s1617 at q; unfold s216; simp at q ⊢; exact q.1)))
        · skip
          refine Ev.iload_n (q := 90) dX12_footOf_89 rfl rfl ?_
          refine Ev.iload_n (q := 91) dX12_footOf_90 rfl rfl ?_
          refine Ev.icmp_ge (tgt := 99) (q := 94) dX12_footOf_91 (by decide) rfl (fun h5 => ?_) (fun h5 => ?_)
          · skip
            refine Ev.bipush (q := 101) dX12_footOf_99 kb_6 rfl ?_
            refine Ev.goto (q := 109) dX12_footOf_101 (by decide) ?_
            refine Ev.iadd (q := 110) dX12_footOf_109 rfl ?_
            refine istore_4 (q := 112) dX12_footOf_110 rfl rfl rfl ?_
            refine Ev.iload (q := 114) dX12_footOf_112 rfl rfl ?_
            refine Ev.iload (q := 116) dX12_footOf_114 rfl rfl ?_
            refine Ev.iadd (q := 117) dX12_footOf_116 rfl ?_
            refine istore_6 (q := 119) dX12_footOf_117 rfl rfl rfl ?_
            refine Ev.goto (q := 18) dX12_footOf_119 (by decide) ?_
            have hval : (6 : Int) = stepV (m0 212) p (f - i) 0 := by unfold stepV; rw [if_pos (by assumption)]; simp
            have hb1 := footDn_bd (m0 212) p f i
            have hb2 := stepV_bd (m0 212) p (f - i) 0
            rw [show w32 (footDn (m0 212) p f i + 6) = footDn (m0 212) p f (i + 1) by
              rw [w32_of (by rw [hval]; omega) (by rw [hval]; omega), hval]
              rfl]
            rw [show w32 (((f - i : Nat) : Int) + (-1)) = ((f - (i + 1) : Nat) : Int) by rw [w32_of (by omega) (by omega)]; omega]
            exact ih (i + 1) (by omega) _ hF1
          · skip
            omega
      · skip
        omega
set_option maxRecDepth 4000 in
theorem p_X12_footOf {Γ : Gm} {d : Nat} {m : Mem} (p f t : Nat) (hp : p < 8) (hf : f < 12) (ht : t < 12) (hlaw : LawOk (m 212) 0) (hld : 0 ≤ m 212 (36 + p) ∧ m 212 (36 + p) ≤ 99) (hag : 0 ≤ m 212 (44 + p) ∧ m 212 (44 + p) ≤ 99) : Ci Γ (d + 2) MX12_footOf [rv 211, iv p, iv f, iv t] m (fun r m' => r = footV (m 212) p f t ∧ Fr s1617 m m') := by
  refine Ci.of moX12_footOf rfl rfl (fun hA hM => ?_)
  show Em Γ (d + 2) MX12_footOf _ 0 [rv 211, iv p, iv f, iv t, uv, uv, uv] [] m
  refine Ev.iconst (q := 1) dX12_footOf_0 ki_0 rfl ?_
  refine istore_4 (q := 3) dX12_footOf_1 rfl rfl rfl ?_
  refine Ev.iload_n (q := 4) dX12_footOf_3 rfl rfl ?_
  refine Ev.iload_n (q := 5) dX12_footOf_4 rfl rfl ?_
  refine Ev.icmp_ge (tgt := 12) (q := 8) dX12_footOf_5 (by decide) rfl (fun h1 => ?_) (fun h1 => ?_)
  · skip
    refine Ev.iconst (q := 13) dX12_footOf_12 ki_m1 rfl ?_
    refine istore_5 (q := 15) dX12_footOf_13 rfl rfl rfl ?_
    refine Ev.iload_n (q := 16) dX12_footOf_15 rfl rfl ?_
    refine istore_6 (q := 18) dX12_footOf_16 rfl rfl rfl ?_
    have hk := l_foot_dn (Γ := Γ) (d := d) p f t hp hf ht (by omega) hlaw hld hag (f - t) 0 (by omega) m (Fr.rf _ _)
    unfold footV
    rw [if_neg (by omega)]
    exact hk
  · skip
    refine Ev.iconst (q := 9) dX12_footOf_8 ki_1 rfl ?_
    refine Ev.goto (q := 13) dX12_footOf_9 (by decide) ?_
    refine istore_5 (q := 15) dX12_footOf_13 rfl rfl rfl ?_
    refine Ev.iload_n (q := 16) dX12_footOf_15 rfl rfl ?_
    refine istore_6 (q := 18) dX12_footOf_16 rfl rfl rfl ?_
    have hk := l_foot_up (Γ := Γ) (d := d) p f t hp hf ht (by omega) hlaw hld hag (t - f) 0 (by omega) m (Fr.rf _ _)
    unfold footV
    rw [if_pos (by omega)]
    exact hk
