/-! ===== the class: lines ===== -/
theorem row_l {f : Row} {l : Nat} {a : Int} (hl : l < 3) (h63 : f (63 + l) = 0) (h66 : f (66 + l) = 0) : upg (upg (upg (upg (upg (upg f (60 + l) a) (63 + l) 0) (66 + l) 0) (69 + l) 1) (22 + l) 3) (25 + l) 8 = upg (upg (upg (upg f (60 + l) a) (22 + l) 3) (25 + l) 8) (69 + l) 1 := by
  have z1 : ∀ j, j = 63 + l → (0 : Int) = f j := fun j e => by rw [e, h63]
  have z2 : ∀ j, j = 66 + l → (0 : Int) = f j := fun j e => by rw [e, h66]
  funext j
  unfold upg
  repeat (first | rfl | omega | exact z1 _ (by assumption) | exact z2 _ (by assumption) | split)
theorem row_p {f : Row} {p : Nat} {a : Int} (hp : p < 8) (h36 : f (36 + p) = 0) (h44 : f (44 + p) = 0) (h80 : f (80 + p) = 0) : upg (upg (upg (upg (upg (upg (upg f (28 + p) a) (36 + p) 0) (44 + p) 0) (52 + p) 1) (72 + p) 0) (80 + p) 0) (88 + p) (-1) = upg (upg (upg (upg f (28 + p) a) (52 + p) 1) (72 + p) 0) (88 + p) (-1) := by
  have z1 : ∀ j, j = 36 + p → (0 : Int) = f j := fun j e => by rw [e, h36]
  have z2 : ∀ j, j = 44 + p → (0 : Int) = f j := fun j e => by rw [e, h44]
  have z3 : ∀ j, j = 80 + p → (0 : Int) = f j := fun j e => by rw [e, h80]
  funext j
  unfold upg
  repeat (first | rfl | omega | exact z1 _ (by assumption) | exact z2 _ (by assumption) | exact z3 _ (by assumption) | split)
theorem RC.more {m : Mem} {f : Row} {l P : Nat} (h : RC m f l P) (hl : LR m f l) : RC m f (l + 1) P := ⟨h.1, h.2.1, fun j hj => by by_cases e : j = l; (subst e; exact hl); exact h.2.2.1 j (by omega), h.2.2.2⟩
theorem RC.moreP {m : Mem} {f : Row} {L p : Nat} (h : RC m f L p) (hl : PR m f p) : RC m f L (p + 1) := ⟨h.1, h.2.1, h.2.2.1, fun j hj => by by_cases e : j = p; (subst e; exact hl); exact h.2.2.2.1 j (by omega), h.2.2.2.2⟩
set_option maxRecDepth 4000 in
theorem p_X6_readLift {Γ : Gm} {d : Nat} {m : Mem} (tx : Nat → Int) (N : Nat) (t : Tok) (f : Row) (hN : N ≤ 900) (hC : TC m tx N) (hT9 : tT tx N t) (h : OKc m t) (hR : RC m f (f 2).toNat (f 3).toNat) (hRI : RI f) (hZ : ZI f) (h24 : ¬ t.1 = 24) : Ci Γ (d + 9) MX6_readLift [rv 2] m (fun r m' => PMe m' (bE (liS tx N t f) chk) ∧ Fr sPc m m') := by
  refine Ci.of moX6_readLift rfl rfl (fun hA hM => ?_)
  show Em Γ (d + 9) MX6_readLift _ 0 [rv 2, uv, uv] [] m
  obtain ⟨hR1, hR2, hR3⟩ := hRI
  have hRI : RI f := ⟨hR1, hR2, hR3⟩
  obtain ⟨l, hl9⟩ : ∃ l : Nat, f 2 = l := ⟨(f 2).toNat, by omega⟩
  have hx1 := nx_lt hT9.ok h24
  refine Ev.aload_n (q := 1) dX6_readLift_0 rfl rfl ?_
  refine gR (q := 4) dX6_readLift_1 gfX6_12 k2 r2_0 rfl rfl ?_
  refine gI (q := 7) dX6_readLift_4 gfX6_129 k3 rfl rfl ?_
  rw [hR.1.2.2.1, hl9]
  refine Ev.iconst (q := 8) dX6_readLift_7 ki_3 rfl ?_
  refine Ev.icmp_lt (tgt := 17) (q := 11) dX6_readLift_8 (by decide) rfl (fun h1 => ?_) (fun h1 => ?_)
  · skip
    have hfull : ¬ f 2 = 3 := by omega
    refine Ev.aload_n (q := 18) dX6_readLift_17 rfl rfl ?_
    refine gR (q := 21) dX6_readLift_18 gfX6_35 k2 r2_4 rfl rfl ?_
    refine cV0v (q := 24) (d' := d + 8) dX6_readLift_21 mlX6_132 moX8_next mvX8_next k22 rfl rfl rfl (Nat.le_refl _) rfl rfl rfl (p_X8_next tx N t.2.2.1 hN hC hT9.ok.2.1 h.2.2.2.1) (fun r2 m2 e2 => ?_)
    obtain ⟨M9, rfl⟩ : ∃ M9, M9 = m2 := ⟨_, rfl⟩
    obtain ⟨y1, y2⟩ := e2
    have x9 : OKc M9 (nxS tx N t) := OKc_nx h.1 y1 y2
    have f9 := y2.tf
    have hC9 := hC.f f9
    have hR9 := hR.tf f9
    have hT99 := hT9.nx
    refine Ev.aload_n (q := 25) dX6_readLift_24 rfl rfl ?_
    refine Ev.ldcS (q := 27) dX6_readLift_25 (i := 2) rfl rfl ?_
    refine cV1v (q := 30) (d' := d + 8) dX6_readLift_27 mlX6_65 moX6_expectWord mvX6_expectWord k2 rfl rfl rfl (Nat.le_refl _) rfl rfl rfl (p_X6_expectWord tx N (nxS tx N t) 2 hN hC9 hT99 x9 (by decide)) (fun r3 m3 e3 => ?_)
    obtain ⟨M7, rfl⟩ : ∃ M7, M7 = m3 := ⟨_, rfl⟩
    obtain ⟨x7, f7⟩ := e3
    have hC7 := hC9.f f7
    have hR7 := hR9.tf f7
    cases hea : eaS tx N 2 (nxS tx N t) with
    | inl e =>
      have x7 : PTc M7 (eaS tx N 2 (nxS tx N t)) := x7
      rw [hea] at x7
      have x7 : BDc M7 e := x7
      refine Ev.aload_n (q := 31) dX6_readLift_30 rfl rfl ?_
      refine gR (q := 34) dX6_readLift_31 gfX6_12 k2 r2_0 rfl rfl ?_
      refine gI (q := 37) dX6_readLift_34 gfX6_129 k3 rfl rfl ?_
      rw [hR7.1.2.2.1, hl9]
      refine istore_n_1 (q := 38) dX6_readLift_37 rfl rfl rfl ?_
      refine Ev.aload_n (q := 39) dX6_readLift_38 rfl rfl ?_
      refine gR (q := 42) dX6_readLift_39 gfX6_21 k2 r2_1 rfl rfl ?_
      refine gR (q := 45) dX6_readLift_42 gfX6_137 k14 r14_0 rfl rfl ?_
      refine Ev.iload_n (q := 46) dX6_readLift_45 rfl rfl ?_
      refine Ev.aload_n (q := 47) dX6_readLift_46 rfl rfl ?_
      refine Ev.iconst (q := 48) dX6_readLift_47 ki_0 rfl ?_
      refine Ev.aload_n (q := 49) dX6_readLift_48 rfl rfl ?_
      refine gR (q := 52) dX6_readLift_49 gfX6_12 k2 r2_0 rfl rfl ?_
      refine gI (q := 55) dX6_readLift_52 gfX6_73 k3 rfl rfl ?_
      refine Ev.iconst (q := 56) dX6_readLift_55 ki_1 rfl ?_
      refine Ev.isub (q := 57) dX6_readLift_56 rfl ?_
      refine cV2i (q := 60) (d' := d + 8) dX6_readLift_57 mlX6_69 moX6_expectNumber mvX6_expectNumber k2 rfl rfl rfl (Nat.le_refl _) rfl rfl rfl (p_X6_expectNumber_bd _ _ _ x7) (fun r91 m91 e91 => ?_)
      obtain ⟨rfl, e91⟩ := e91
      obtain rfl := e91.symm
      refine sI (q := 61) (k := l) dX6_readLift_60 k15 (by first | rfl | omega | (simp (disch := omega) only [w32_of]; omega)) (by omega) rfl ?_
      refine Ev.aload_n (q := 62) dX6_readLift_61 rfl rfl ?_
      refine gR (q := 65) dX6_readLift_62 gfX6_21 k2 r2_1 rfl rfl ?_
      refine gR (q := 68) dX6_readLift_65 gfX6_140 k14 r14_1 rfl rfl ?_
      refine Ev.iload_n (q := 69) dX6_readLift_68 rfl rfl ?_
      refine Ev.iconst (q := 70) dX6_readLift_69 ki_0 rfl ?_
      refine sI (q := 71) (k := l) dX6_readLift_70 k16 (by first | rfl | omega | (simp (disch := omega) only [w32_of]; omega)) (by omega) rfl ?_
      refine Ev.aload_n (q := 72) dX6_readLift_71 rfl rfl ?_
      refine gR (q := 75) dX6_readLift_72 gfX6_21 k2 r2_1 rfl rfl ?_
      refine gR (q := 78) dX6_readLift_75 gfX6_143 k14 r14_2 rfl rfl ?_
      refine Ev.iload_n (q := 79) dX6_readLift_78 rfl rfl ?_
      refine Ev.iconst (q := 80) dX6_readLift_79 ki_0 rfl ?_
      refine sI (q := 81) (k := l) dX6_readLift_80 k17 (by first | rfl | omega | (simp (disch := omega) only [w32_of]; omega)) (by omega) rfl ?_
      refine Ev.aload_n (q := 82) dX6_readLift_81 rfl rfl ?_
      refine gR (q := 85) dX6_readLift_82 gfX6_21 k2 r2_1 rfl rfl ?_
      refine gR (q := 88) dX6_readLift_85 gfX6_146 k14 r14_3 rfl rfl ?_
      refine Ev.iload_n (q := 89) dX6_readLift_88 rfl rfl ?_
      refine Ev.iconst (q := 90) dX6_readLift_89 ki_1 rfl ?_
      refine sI (q := 91) (k := l) dX6_readLift_90 k18 (by first | rfl | omega | (simp (disch := omega) only [w32_of]; omega)) (by omega) rfl ?_
      refine Ev.aload_n (q := 92) dX6_readLift_91 rfl rfl ?_
      refine gR (q := 95) dX6_readLift_92 gfX6_12 k2 r2_0 rfl rfl ?_
      refine gR (q := 98) dX6_readLift_95 gfX6_149 k3 r3_5 rfl rfl ?_
      refine Ev.iload_n (q := 99) dX6_readLift_98 rfl rfl ?_
      refine Ev.iconst (q := 100) dX6_readLift_99 ki_3 rfl ?_
      refine sI (q := 101) (k := l) dX6_readLift_100 k5 (by first | rfl | omega | (simp (disch := omega) only [w32_of]; omega)) (by omega) rfl ?_
      refine Ev.aload_n (q := 102) dX6_readLift_101 rfl rfl ?_
      refine gR (q := 105) dX6_readLift_102 gfX6_39 k2 r2_5 rfl rfl ?_
      refine Ev.iload_n (q := 106) dX6_readLift_105 rfl rfl ?_
      refine Ev.bipush (q := 108) dX6_readLift_106 kb_8 rfl ?_
      refine sI (q := 109) (k := l) dX6_readLift_108 k24 (by first | rfl | omega | (simp (disch := omega) only [w32_of]; omega)) (by omega) rfl ?_
      refine Ev.iconst (q := 110) dX6_readLift_109 ki_0 rfl ?_
      refine istore_n_2 (q := 111) dX6_readLift_110 rfl rfl rfl ?_
      refine Ev.iload_n (q := 112) dX6_readLift_111 rfl rfl ?_
      refine Ev.sipush (q := 115) dX6_readLift_112 kh_900 rfl ?_
      refine Ev.icmp_ge (tgt := 148) (q := 118) dX6_readLift_115 (by decide) rfl (fun h92 => ?_) (fun h92 => ?_)
      · skip
        refine Ev.aload_n (q := 149) dX6_readLift_148 rfl rfl ?_
        refine gR (q := 152) dX6_readLift_149 gfX6_12 k2 r2_0 rfl rfl ?_
        refine Ev.dup (q := 153) dX6_readLift_152 (fun z => by cases z) rfl ?_
        refine gI (q := 156) dX6_readLift_153 gfX6_129 k3 rfl rfl ?_
        refine Ev.iconst (q := 157) dX6_readLift_156 ki_1 rfl ?_
        refine Ev.iadd (q := 158) dX6_readLift_157 rfl ?_
        refine pI (q := 161) dX6_readLift_158 gfX6_129 k3 rfl rfl ?_
        refine rV dX6_readLift_161 rfl ?_
        unfold liS
        rw [if_neg hfull, bE_l hea]
        exact ⟨(((((((x7).up _ _ (by decide)).up _ _ (by decide)).up _ _ (by decide)).up _ _ (by decide)).up _ _ (by decide)).up _ _ (by decide)).up _ _ (by decide), ((((((((f9.tr f7).pc).up (pc_t (by omega))).up (pc_t (by omega))).up (pc_t (by omega))).up (pc_t (by omega))).up (pc_t (by omega))).up (pc_t (by omega))).up (pc_t (by omega))⟩
      · skip
        refine Ev.aload_n (q := 119) dX6_readLift_118 rfl rfl ?_
        refine gI (q := 122) dX6_readLift_119 gfX6_25 k2 rfl rfl ?_
        first | rw [(((((((x7).up _ _ (by decide)).up _ _ (by decide)).up _ _ (by decide)).up _ _ (by decide)).up _ _ (by decide)).up _ _ (by decide)).1] | rw [(((((((x7).up _ _ (by decide)).up _ _ (by decide)).up _ _ (by decide)).up _ _ (by decide)).up _ _ (by decide)).up _ _ (by decide)).1.1]
        refine Ev.if_ne (tgt := 148) (q := 125) dX6_readLift_122 (by decide) rfl (fun h93 => ?_) (fun h93 => ?_)
        · skip
          refine Ev.aload_n (q := 149) dX6_readLift_148 rfl rfl ?_
          refine gR (q := 152) dX6_readLift_149 gfX6_12 k2 r2_0 rfl rfl ?_
          refine Ev.dup (q := 153) dX6_readLift_152 (fun z => by cases z) rfl ?_
          refine gI (q := 156) dX6_readLift_153 gfX6_129 k3 rfl rfl ?_
          refine Ev.iconst (q := 157) dX6_readLift_156 ki_1 rfl ?_
          refine Ev.iadd (q := 158) dX6_readLift_157 rfl ?_
          refine pI (q := 161) dX6_readLift_158 gfX6_129 k3 rfl rfl ?_
          refine rV dX6_readLift_161 rfl ?_
          unfold liS
          rw [if_neg hfull, bE_l hea]
          exact ⟨(((((((x7).up _ _ (by decide)).up _ _ (by decide)).up _ _ (by decide)).up _ _ (by decide)).up _ _ (by decide)).up _ _ (by decide)).up _ _ (by decide), ((((((((f9.tr f7).pc).up (pc_t (by omega))).up (pc_t (by omega))).up (pc_t (by omega))).up (pc_t (by omega))).up (pc_t (by omega))).up (pc_t (by omega))).up (pc_t (by omega))⟩
        · skip
          exact absurd (by assumption) x7.2.1
    | inr t1 =>
      have x7 : PTc M7 (eaS tx N 2 (nxS tx N t)) := x7
      rw [hea] at x7
      have x7 : OKc M7 t1 := x7
      obtain ⟨q1, q2, q3, q4⟩ := ea_T hT99 (by decide) hea
      refine Ev.aload_n (q := 31) dX6_readLift_30 rfl rfl ?_
      refine gR (q := 34) dX6_readLift_31 gfX6_12 k2 r2_0 rfl rfl ?_
      refine gI (q := 37) dX6_readLift_34 gfX6_129 k3 rfl rfl ?_
      rw [hR7.1.2.2.1, hl9]
      refine istore_n_1 (q := 38) dX6_readLift_37 rfl rfl rfl ?_
      refine Ev.aload_n (q := 39) dX6_readLift_38 rfl rfl ?_
      refine gR (q := 42) dX6_readLift_39 gfX6_21 k2 r2_1 rfl rfl ?_
      refine gR (q := 45) dX6_readLift_42 gfX6_137 k14 r14_0 rfl rfl ?_
      refine Ev.iload_n (q := 46) dX6_readLift_45 rfl rfl ?_
      refine Ev.aload_n (q := 47) dX6_readLift_46 rfl rfl ?_
      refine Ev.iconst (q := 48) dX6_readLift_47 ki_0 rfl ?_
      refine Ev.aload_n (q := 49) dX6_readLift_48 rfl rfl ?_
      refine gR (q := 52) dX6_readLift_49 gfX6_12 k2 r2_0 rfl rfl ?_
      refine gI (q := 55) dX6_readLift_52 gfX6_73 k3 rfl rfl ?_
      first | rw [hR7.1.1] | rw [hR7.1.1.1]
      refine Ev.iconst (q := 56) dX6_readLift_55 ki_1 rfl ?_
      refine Ev.isub (q := 57) dX6_readLift_56 rfl ?_
      rw [w32_of (by omega) (by omega)]
      refine cV2i (q := 60) (d' := d + 8) dX6_readLift_57 mlX6_69 moX6_expectNumber mvX6_expectNumber k2 rfl rfl rfl (Nat.le_refl _) rfl rfl rfl (p_X6_expectNumber tx N t1 0 (f 1 - 1) hN hC7 q2 x7) (fun r61 m61 e61 => ?_)
      obtain ⟨M8, rfl⟩ : ∃ M8, M8 = m61 := ⟨_, rfl⟩
      obtain ⟨x8, f8⟩ := e61
      have hR8 := hR7.tf f8
      cases hx : nuS tx N 0 (f 1 - 1) t1 with
      | inl e =>
        rw [hx] at x8
        obtain ⟨xr, x8⟩ : _ = 0 ∧ BDc M8 e := x8
        rw [xr]
        refine sI (q := 61) (k := l) dX6_readLift_60 k15 (by first | rfl | omega | (simp (disch := omega) only [w32_of]; omega)) (by omega) rfl ?_
        refine Ev.aload_n (q := 62) dX6_readLift_61 rfl rfl ?_
        refine gR (q := 65) dX6_readLift_62 gfX6_21 k2 r2_1 rfl rfl ?_
        refine gR (q := 68) dX6_readLift_65 gfX6_140 k14 r14_1 rfl rfl ?_
        refine Ev.iload_n (q := 69) dX6_readLift_68 rfl rfl ?_
        refine Ev.iconst (q := 70) dX6_readLift_69 ki_0 rfl ?_
        refine sI (q := 71) (k := l) dX6_readLift_70 k16 (by first | rfl | omega | (simp (disch := omega) only [w32_of]; omega)) (by omega) rfl ?_
        refine Ev.aload_n (q := 72) dX6_readLift_71 rfl rfl ?_
        refine gR (q := 75) dX6_readLift_72 gfX6_21 k2 r2_1 rfl rfl ?_
        refine gR (q := 78) dX6_readLift_75 gfX6_143 k14 r14_2 rfl rfl ?_
        refine Ev.iload_n (q := 79) dX6_readLift_78 rfl rfl ?_
        refine Ev.iconst (q := 80) dX6_readLift_79 ki_0 rfl ?_
        refine sI (q := 81) (k := l) dX6_readLift_80 k17 (by first | rfl | omega | (simp (disch := omega) only [w32_of]; omega)) (by omega) rfl ?_
        refine Ev.aload_n (q := 82) dX6_readLift_81 rfl rfl ?_
        refine gR (q := 85) dX6_readLift_82 gfX6_21 k2 r2_1 rfl rfl ?_
        refine gR (q := 88) dX6_readLift_85 gfX6_146 k14 r14_3 rfl rfl ?_
        refine Ev.iload_n (q := 89) dX6_readLift_88 rfl rfl ?_
        refine Ev.iconst (q := 90) dX6_readLift_89 ki_1 rfl ?_
        refine sI (q := 91) (k := l) dX6_readLift_90 k18 (by first | rfl | omega | (simp (disch := omega) only [w32_of]; omega)) (by omega) rfl ?_
        refine Ev.aload_n (q := 92) dX6_readLift_91 rfl rfl ?_
        refine gR (q := 95) dX6_readLift_92 gfX6_12 k2 r2_0 rfl rfl ?_
        refine gR (q := 98) dX6_readLift_95 gfX6_149 k3 r3_5 rfl rfl ?_
        refine Ev.iload_n (q := 99) dX6_readLift_98 rfl rfl ?_
        refine Ev.iconst (q := 100) dX6_readLift_99 ki_3 rfl ?_
        refine sI (q := 101) (k := l) dX6_readLift_100 k5 (by first | rfl | omega | (simp (disch := omega) only [w32_of]; omega)) (by omega) rfl ?_
        refine Ev.aload_n (q := 102) dX6_readLift_101 rfl rfl ?_
        refine gR (q := 105) dX6_readLift_102 gfX6_39 k2 r2_5 rfl rfl ?_
        refine Ev.iload_n (q := 106) dX6_readLift_105 rfl rfl ?_
        refine Ev.bipush (q := 108) dX6_readLift_106 kb_8 rfl ?_
        refine sI (q := 109) (k := l) dX6_readLift_108 k24 (by first | rfl | omega | (simp (disch := omega) only [w32_of]; omega)) (by omega) rfl ?_
        refine Ev.iconst (q := 110) dX6_readLift_109 ki_0 rfl ?_
        refine istore_n_2 (q := 111) dX6_readLift_110 rfl rfl rfl ?_
        refine Ev.iload_n (q := 112) dX6_readLift_111 rfl rfl ?_
        refine Ev.sipush (q := 115) dX6_readLift_112 kh_900 rfl ?_
        refine Ev.icmp_ge (tgt := 148) (q := 118) dX6_readLift_115 (by decide) rfl (fun h91 => ?_) (fun h91 => ?_)
        · skip
          refine Ev.aload_n (q := 149) dX6_readLift_148 rfl rfl ?_
          refine gR (q := 152) dX6_readLift_149 gfX6_12 k2 r2_0 rfl rfl ?_
          refine Ev.dup (q := 153) dX6_readLift_152 (fun z => by cases z) rfl ?_
          refine gI (q := 156) dX6_readLift_153 gfX6_129 k3 rfl rfl ?_
          refine Ev.iconst (q := 157) dX6_readLift_156 ki_1 rfl ?_
          refine Ev.iadd (q := 158) dX6_readLift_157 rfl ?_
          refine pI (q := 161) dX6_readLift_158 gfX6_129 k3 rfl rfl ?_
          refine rV dX6_readLift_161 rfl ?_
          unfold liS
          rw [if_neg hfull, bE_r hea, bE_l hx]
          exact ⟨(((((((x8).up _ _ (by decide)).up _ _ (by decide)).up _ _ (by decide)).up _ _ (by decide)).up _ _ (by decide)).up _ _ (by decide)).up _ _ (by decide), ((((((((f9.tr (f7.tr f8)).pc).up (pc_t (by omega))).up (pc_t (by omega))).up (pc_t (by omega))).up (pc_t (by omega))).up (pc_t (by omega))).up (pc_t (by omega))).up (pc_t (by omega))⟩
        · skip
          refine Ev.aload_n (q := 119) dX6_readLift_118 rfl rfl ?_
          refine gI (q := 122) dX6_readLift_119 gfX6_25 k2 rfl rfl ?_
          first | rw [(((((((x8).up _ _ (by decide)).up _ _ (by decide)).up _ _ (by decide)).up _ _ (by decide)).up _ _ (by decide)).up _ _ (by decide)).1] | rw [(((((((x8).up _ _ (by decide)).up _ _ (by decide)).up _ _ (by decide)).up _ _ (by decide)).up _ _ (by decide)).up _ _ (by decide)).1.1]
          refine Ev.if_ne (tgt := 148) (q := 125) dX6_readLift_122 (by decide) rfl (fun h92 => ?_) (fun h92 => ?_)
          · skip
            refine Ev.aload_n (q := 149) dX6_readLift_148 rfl rfl ?_
            refine gR (q := 152) dX6_readLift_149 gfX6_12 k2 r2_0 rfl rfl ?_
            refine Ev.dup (q := 153) dX6_readLift_152 (fun z => by cases z) rfl ?_
            refine gI (q := 156) dX6_readLift_153 gfX6_129 k3 rfl rfl ?_
            refine Ev.iconst (q := 157) dX6_readLift_156 ki_1 rfl ?_
            refine Ev.iadd (q := 158) dX6_readLift_157 rfl ?_
            refine pI (q := 161) dX6_readLift_158 gfX6_129 k3 rfl rfl ?_
            refine rV dX6_readLift_161 rfl ?_
            unfold liS
            rw [if_neg hfull, bE_r hea, bE_l hx]
            exact ⟨(((((((x8).up _ _ (by decide)).up _ _ (by decide)).up _ _ (by decide)).up _ _ (by decide)).up _ _ (by decide)).up _ _ (by decide)).up _ _ (by decide), ((((((((f9.tr (f7.tr f8)).pc).up (pc_t (by omega))).up (pc_t (by omega))).up (pc_t (by omega))).up (pc_t (by omega))).up (pc_t (by omega))).up (pc_t (by omega))).up (pc_t (by omega))⟩
          · skip
            exact absurd (by assumption) x8.2.1
      | inr a =>
        rw [hx] at x8
        obtain ⟨xr, x8⟩ : _ = a.1 ∧ OKc M8 a.2 := x8
        obtain ⟨n1, n2, n3, n5, hle2⟩ := nu_T q2 hx
        rw [xr]
        refine sI (q := 61) (k := l) dX6_readLift_60 k15 (by first | rfl | omega | (simp (disch := omega) only [w32_of]; omega)) (by omega) rfl ?_
        refine Ev.aload_n (q := 62) dX6_readLift_61 rfl rfl ?_
        refine gR (q := 65) dX6_readLift_62 gfX6_21 k2 r2_1 rfl rfl ?_
        refine gR (q := 68) dX6_readLift_65 gfX6_140 k14 r14_1 rfl rfl ?_
        refine Ev.iload_n (q := 69) dX6_readLift_68 rfl rfl ?_
        refine Ev.iconst (q := 70) dX6_readLift_69 ki_0 rfl ?_
        refine sI (q := 71) (k := l) dX6_readLift_70 k16 (by first | rfl | omega | (simp (disch := omega) only [w32_of]; omega)) (by omega) rfl ?_
        refine Ev.aload_n (q := 72) dX6_readLift_71 rfl rfl ?_
        refine gR (q := 75) dX6_readLift_72 gfX6_21 k2 r2_1 rfl rfl ?_
        refine gR (q := 78) dX6_readLift_75 gfX6_143 k14 r14_2 rfl rfl ?_
        refine Ev.iload_n (q := 79) dX6_readLift_78 rfl rfl ?_
        refine Ev.iconst (q := 80) dX6_readLift_79 ki_0 rfl ?_
        refine sI (q := 81) (k := l) dX6_readLift_80 k17 (by first | rfl | omega | (simp (disch := omega) only [w32_of]; omega)) (by omega) rfl ?_
        refine Ev.aload_n (q := 82) dX6_readLift_81 rfl rfl ?_
        refine gR (q := 85) dX6_readLift_82 gfX6_21 k2 r2_1 rfl rfl ?_
        refine gR (q := 88) dX6_readLift_85 gfX6_146 k14 r14_3 rfl rfl ?_
        refine Ev.iload_n (q := 89) dX6_readLift_88 rfl rfl ?_
        refine Ev.iconst (q := 90) dX6_readLift_89 ki_1 rfl ?_
        refine sI (q := 91) (k := l) dX6_readLift_90 k18 (by first | rfl | omega | (simp (disch := omega) only [w32_of]; omega)) (by omega) rfl ?_
        refine Ev.aload_n (q := 92) dX6_readLift_91 rfl rfl ?_
        refine gR (q := 95) dX6_readLift_92 gfX6_12 k2 r2_0 rfl rfl ?_
        refine gR (q := 98) dX6_readLift_95 gfX6_149 k3 r3_5 rfl rfl ?_
        refine Ev.iload_n (q := 99) dX6_readLift_98 rfl rfl ?_
        refine Ev.iconst (q := 100) dX6_readLift_99 ki_3 rfl ?_
        refine sI (q := 101) (k := l) dX6_readLift_100 k5 (by first | rfl | omega | (simp (disch := omega) only [w32_of]; omega)) (by omega) rfl ?_
        refine Ev.aload_n (q := 102) dX6_readLift_101 rfl rfl ?_
        refine gR (q := 105) dX6_readLift_102 gfX6_39 k2 r2_5 rfl rfl ?_
        refine Ev.iload_n (q := 106) dX6_readLift_105 rfl rfl ?_
        refine Ev.bipush (q := 108) dX6_readLift_106 kb_8 rfl ?_
        refine sI (q := 109) (k := l) dX6_readLift_108 k24 (by first | rfl | omega | (simp (disch := omega) only [w32_of]; omega)) (by omega) rfl ?_
        refine Ev.iconst (q := 110) dX6_readLift_109 ki_0 rfl ?_
        refine istore_n_2 (q := 111) dX6_readLift_110 rfl rfl rfl ?_
        have hch := RC_24 (RC_5 (RC_18 (RC_17 (RC_16 (RC_15 hR8 (by omega) (by omega) (k := l) (by omega) a.1) (by omega) (by omega) (k := l) (by omega) 0) (by omega) (by omega) (k := l) (by omega) 0) (by omega) (by omega) (k := l) (by omega) 1) (by omega) (by omega) (k := l) (by omega) 3) (by omega) (by omega) (k := l) (by omega) 8
        rw [hl9, Int.toNat_natCast] at hch
        have hfu := RC.more hch (by refine ⟨?_, ?_, ?_, ?_, ?_, ?_⟩ <;> simp (disch := omega) only [up_o, up_k, up_eq, upg_eq, upg_ne])
        rw [row_l (by omega) (hZ.1 l (by omega)).1 ((hZ.1 l (by omega)).2 (by omega))] at hfu
        refine (lc_X6_readLift (m0 := m) tx N l (f 3).toNat hN (by omega) (by omega) (N + 1) a.2 _ _ 0 (((((((x8).up _ _ (by decide)).up _ _ (by decide)).up _ _ (by decide)).up _ _ (by decide)).up _ _ (by decide)).up _ _ (by decide)) n3 (((((((hC7.f f8).up _ _ (by decide)).up _ _ (by decide)).up _ _ (by decide)).up _ _ (by decide)).up _ _ (by decide)).up _ _ (by decide)) hfu ((((hRI.up (by omega) _).up (by omega) _).up (by omega) _).up (by omega) _) (by rw [upg_ne _ _ (by omega), upg_ne _ _ (by omega), upg_ne _ _ (by omega), upg_ne _ _ (by omega)]; exact hl9) (by rw [upg_ne _ _ (by omega), upg_ne _ _ (by omega), upg_ne _ _ (by omega), upg_ne _ _ (by omega)]; omega) (by omega) (by omega) ((((((((f9.tr (f7.tr f8)).pc).up (pc_t (by omega))).up (pc_t (by omega))).up (pc_t (by omega))).up (pc_t (by omega))).up (pc_t (by omega))).up (pc_t (by omega)))).imp ?_
        intro r9 m9 h9
        unfold liS
        rw [if_neg hfull, bE_r hea, bE_r hx, hl9, Int.toNat_natCast]
        exact h9
  · skip
    refine Ev.aload_n (q := 12) dX6_readLift_11 rfl rfl ?_
    refine Ev.iconst (q := 13) dX6_readLift_12 ki_4 rfl ?_
    refine cV1v (q := 16) (d' := d + 8) dX6_readLift_13 mlX6_118 moX6_fail mvX6_fail k2 rfl rfl rfl (Nat.le_refl _) rfl rfl rfl (p_X6_fail tx N t 4 hT9 (by decide) h) (fun r4 m4 e4 => ?_)
    obtain ⟨b1, b2, b3⟩ := e4
    refine rV dX6_readLift_16 rfl ?_
    have hfull : f 2 = 3 := by omega
    unfold liS
    rw [if_pos hfull]
    exact ⟨b1, b2.pc⟩
set_option maxRecDepth 4000 in
theorem p_X6_readPerson {Γ : Gm} {d : Nat} {m : Mem} (tx : Nat → Int) (N : Nat) (t : Tok) (f : Row) (hN : N ≤ 900) (hC : TC m tx N) (hT9 : tT tx N t) (h : OKc m t) (hR : RC m f (f 2).toNat (f 3).toNat) (hRI : RI f) (hZ : ZI f) (h24 : ¬ t.1 = 24) : Ci Γ (d + 9) MX6_readPerson [rv 2] m (fun r m' => PMe m' (bE (peS tx N t f) chk) ∧ Fr sPc m m') := by
  refine Ci.of moX6_readPerson rfl rfl (fun hA hM => ?_)
  show Em Γ (d + 9) MX6_readPerson _ 0 [rv 2, uv, uv] [] m
  obtain ⟨hR1, hR2, hR3⟩ := hRI
  have hRI : RI f := ⟨hR1, hR2, hR3⟩
  obtain ⟨p, hl9⟩ : ∃ p : Nat, f 3 = p := ⟨(f 3).toNat, by omega⟩
  have hx1 := nx_lt hT9.ok h24
  refine Ev.aload_n (q := 1) dX6_readPerson_0 rfl rfl ?_
  refine gR (q := 4) dX6_readPerson_1 gfX6_12 k2 r2_0 rfl rfl ?_
  refine gI (q := 7) dX6_readPerson_4 gfX6_174 k3 rfl rfl ?_
  rw [hR.1.2.2.2, hl9]
  refine Ev.bipush (q := 9) dX6_readPerson_7 kb_8 rfl ?_
  refine Ev.icmp_lt (tgt := 18) (q := 12) dX6_readPerson_9 (by decide) rfl (fun h1 => ?_) (fun h1 => ?_)
  · skip
    have hfull : ¬ f 3 = 8 := by omega
    refine Ev.aload_n (q := 19) dX6_readPerson_18 rfl rfl ?_
    refine gR (q := 22) dX6_readPerson_19 gfX6_35 k2 r2_4 rfl rfl ?_
    refine cV0v (q := 25) (d' := d + 8) dX6_readPerson_22 mlX6_132 moX8_next mvX8_next k22 rfl rfl rfl (Nat.le_refl _) rfl rfl rfl (p_X8_next tx N t.2.2.1 hN hC hT9.ok.2.1 h.2.2.2.1) (fun r2 m2 e2 => ?_)
    obtain ⟨M9, rfl⟩ : ∃ M9, M9 = m2 := ⟨_, rfl⟩
    obtain ⟨y1, y2⟩ := e2
    have x9 : OKc M9 (nxS tx N t) := OKc_nx h.1 y1 y2
    have f9 := y2.tf
    have hC9 := hC.f f9
    have hR9 := hR.tf f9
    have hT99 := hT9.nx
    refine Ev.aload_n (q := 26) dX6_readPerson_25 rfl rfl ?_
    refine Ev.ldcS (q := 28) dX6_readPerson_26 (i := 8) rfl rfl ?_
    refine cV1v (q := 31) (d' := d + 8) dX6_readPerson_28 mlX6_65 moX6_expectWord mvX6_expectWord k2 rfl rfl rfl (Nat.le_refl _) rfl rfl rfl (p_X6_expectWord tx N (nxS tx N t) 8 hN hC9 hT99 x9 (by decide)) (fun r3 m3 e3 => ?_)
    obtain ⟨M7, rfl⟩ : ∃ M7, M7 = m3 := ⟨_, rfl⟩
    obtain ⟨x7, f7⟩ := e3
    have hC7 := hC9.f f7
    have hR7 := hR9.tf f7
    cases hea : eaS tx N 8 (nxS tx N t) with
    | inl e =>
      have x7 : PTc M7 (eaS tx N 8 (nxS tx N t)) := x7
      rw [hea] at x7
      have x7 : BDc M7 e := x7
      refine Ev.aload_n (q := 32) dX6_readPerson_31 rfl rfl ?_
      refine gR (q := 35) dX6_readPerson_32 gfX6_12 k2 r2_0 rfl rfl ?_
      refine gI (q := 38) dX6_readPerson_35 gfX6_174 k3 rfl rfl ?_
      rw [hR7.1.2.2.2, hl9]
      refine istore_n_1 (q := 39) dX6_readPerson_38 rfl rfl rfl ?_
      refine Ev.aload_n (q := 40) dX6_readPerson_39 rfl rfl ?_
      refine gR (q := 43) dX6_readPerson_40 gfX6_12 k2 r2_0 rfl rfl ?_
      refine gR (q := 46) dX6_readPerson_43 gfX6_179 k3 r3_6 rfl rfl ?_
      refine Ev.iload_n (q := 47) dX6_readPerson_46 rfl rfl ?_
      refine Ev.aload_n (q := 48) dX6_readPerson_47 rfl rfl ?_
      refine Ev.iconst (q := 49) dX6_readPerson_48 ki_0 rfl ?_
      refine Ev.aload_n (q := 50) dX6_readPerson_49 rfl rfl ?_
      refine gR (q := 53) dX6_readPerson_50 gfX6_12 k2 r2_0 rfl rfl ?_
      refine gI (q := 56) dX6_readPerson_53 gfX6_73 k3 rfl rfl ?_
      refine Ev.iconst (q := 57) dX6_readPerson_56 ki_1 rfl ?_
      refine Ev.isub (q := 58) dX6_readPerson_57 rfl ?_
      refine cV2i (q := 61) (d' := d + 8) dX6_readPerson_58 mlX6_69 moX6_expectNumber mvX6_expectNumber k2 rfl rfl rfl (Nat.le_refl _) rfl rfl rfl (p_X6_expectNumber_bd _ _ _ x7) (fun r91 m91 e91 => ?_)
      obtain ⟨rfl, e91⟩ := e91
      obtain rfl := e91.symm
      refine sI (q := 62) (k := p) dX6_readPerson_61 k6 (by first | rfl | omega | (simp (disch := omega) only [w32_of]; omega)) (by omega) rfl ?_
      refine Ev.aload_n (q := 63) dX6_readPerson_62 rfl rfl ?_
      refine gR (q := 66) dX6_readPerson_63 gfX6_12 k2 r2_0 rfl rfl ?_
      refine gR (q := 69) dX6_readPerson_66 gfX6_181 k3 r3_7 rfl rfl ?_
      refine Ev.iload_n (q := 70) dX6_readPerson_69 rfl rfl ?_
      refine Ev.iconst (q := 71) dX6_readPerson_70 ki_0 rfl ?_
      refine sI (q := 72) (k := p) dX6_readPerson_71 k7 (by first | rfl | omega | (simp (disch := omega) only [w32_of]; omega)) (by omega) rfl ?_
      refine Ev.aload_n (q := 73) dX6_readPerson_72 rfl rfl ?_
      refine gR (q := 76) dX6_readPerson_73 gfX6_12 k2 r2_0 rfl rfl ?_
      refine gR (q := 79) dX6_readPerson_76 gfX6_184 k3 r3_8 rfl rfl ?_
      refine Ev.iload_n (q := 80) dX6_readPerson_79 rfl rfl ?_
      refine Ev.iconst (q := 81) dX6_readPerson_80 ki_0 rfl ?_
      refine sI (q := 82) (k := p) dX6_readPerson_81 k8 (by first | rfl | omega | (simp (disch := omega) only [w32_of]; omega)) (by omega) rfl ?_
      refine Ev.aload_n (q := 83) dX6_readPerson_82 rfl rfl ?_
      refine gR (q := 86) dX6_readPerson_83 gfX6_12 k2 r2_0 rfl rfl ?_
      refine gR (q := 89) dX6_readPerson_86 gfX6_187 k3 r3_9 rfl rfl ?_
      refine Ev.iload_n (q := 90) dX6_readPerson_89 rfl rfl ?_
      refine Ev.iconst (q := 91) dX6_readPerson_90 ki_1 rfl ?_
      refine sI (q := 92) (k := p) dX6_readPerson_91 k9 (by first | rfl | omega | (simp (disch := omega) only [w32_of]; omega)) (by omega) rfl ?_
      refine Ev.aload_n (q := 93) dX6_readPerson_92 rfl rfl ?_
      refine gR (q := 96) dX6_readPerson_93 gfX6_21 k2 r2_1 rfl rfl ?_
      refine gR (q := 99) dX6_readPerson_96 gfX6_190 k14 r14_4 rfl rfl ?_
      refine Ev.iload_n (q := 100) dX6_readPerson_99 rfl rfl ?_
      refine Ev.iconst (q := 101) dX6_readPerson_100 ki_0 rfl ?_
      refine sI (q := 102) (k := p) dX6_readPerson_101 k19 (by first | rfl | omega | (simp (disch := omega) only [w32_of]; omega)) (by omega) rfl ?_
      refine Ev.aload_n (q := 103) dX6_readPerson_102 rfl rfl ?_
      refine gR (q := 106) dX6_readPerson_103 gfX6_21 k2 r2_1 rfl rfl ?_
      refine gR (q := 109) dX6_readPerson_106 gfX6_193 k14 r14_5 rfl rfl ?_
      refine Ev.iload_n (q := 110) dX6_readPerson_109 rfl rfl ?_
      refine Ev.iconst (q := 111) dX6_readPerson_110 ki_0 rfl ?_
      refine sI (q := 112) (k := p) dX6_readPerson_111 k20 (by first | rfl | omega | (simp (disch := omega) only [w32_of]; omega)) (by omega) rfl ?_
      refine Ev.aload_n (q := 113) dX6_readPerson_112 rfl rfl ?_
      refine gR (q := 116) dX6_readPerson_113 gfX6_21 k2 r2_1 rfl rfl ?_
      refine gR (q := 119) dX6_readPerson_116 gfX6_196 k14 r14_6 rfl rfl ?_
      refine Ev.iload_n (q := 120) dX6_readPerson_119 rfl rfl ?_
      refine Ev.iconst (q := 121) dX6_readPerson_120 ki_m1 rfl ?_
      refine sI (q := 122) (k := p) dX6_readPerson_121 k21 (by first | rfl | omega | (simp (disch := omega) only [w32_of]; omega)) (by omega) rfl ?_
      refine Ev.iconst (q := 123) dX6_readPerson_122 ki_0 rfl ?_
      refine istore_n_2 (q := 124) dX6_readPerson_123 rfl rfl rfl ?_
      refine Ev.iload_n (q := 125) dX6_readPerson_124 rfl rfl ?_
      refine Ev.sipush (q := 128) dX6_readPerson_125 kh_900 rfl ?_
      refine Ev.icmp_ge (tgt := 161) (q := 131) dX6_readPerson_128 (by decide) rfl (fun h92 => ?_) (fun h92 => ?_)
      · skip
        refine Ev.aload_n (q := 162) dX6_readPerson_161 rfl rfl ?_
        refine gR (q := 165) dX6_readPerson_162 gfX6_12 k2 r2_0 rfl rfl ?_
        refine Ev.dup (q := 166) dX6_readPerson_165 (fun z => by cases z) rfl ?_
        refine gI (q := 169) dX6_readPerson_166 gfX6_174 k3 rfl rfl ?_
        refine Ev.iconst (q := 170) dX6_readPerson_169 ki_1 rfl ?_
        refine Ev.iadd (q := 171) dX6_readPerson_170 rfl ?_
        refine pI (q := 174) dX6_readPerson_171 gfX6_174 k3 rfl rfl ?_
        refine rV dX6_readPerson_174 rfl ?_
        unfold peS
        rw [if_neg hfull, bE_l hea]
        exact ⟨((((((((x7).up _ _ (by decide)).up _ _ (by decide)).up _ _ (by decide)).up _ _ (by decide)).up _ _ (by decide)).up _ _ (by decide)).up _ _ (by decide)).up _ _ (by decide), (((((((((f9.tr f7).pc).up (pc_t (by omega))).up (pc_t (by omega))).up (pc_t (by omega))).up (pc_t (by omega))).up (pc_t (by omega))).up (pc_t (by omega))).up (pc_t (by omega))).up (pc_t (by omega))⟩
      · skip
        refine Ev.aload_n (q := 132) dX6_readPerson_131 rfl rfl ?_
        refine gI (q := 135) dX6_readPerson_132 gfX6_25 k2 rfl rfl ?_
        first | rw [((((((((x7).up _ _ (by decide)).up _ _ (by decide)).up _ _ (by decide)).up _ _ (by decide)).up _ _ (by decide)).up _ _ (by decide)).up _ _ (by decide)).1] | rw [((((((((x7).up _ _ (by decide)).up _ _ (by decide)).up _ _ (by decide)).up _ _ (by decide)).up _ _ (by decide)).up _ _ (by decide)).up _ _ (by decide)).1.1]
        refine Ev.if_ne (tgt := 161) (q := 138) dX6_readPerson_135 (by decide) rfl (fun h93 => ?_) (fun h93 => ?_)
        · skip
          refine Ev.aload_n (q := 162) dX6_readPerson_161 rfl rfl ?_
          refine gR (q := 165) dX6_readPerson_162 gfX6_12 k2 r2_0 rfl rfl ?_
          refine Ev.dup (q := 166) dX6_readPerson_165 (fun z => by cases z) rfl ?_
          refine gI (q := 169) dX6_readPerson_166 gfX6_174 k3 rfl rfl ?_
          refine Ev.iconst (q := 170) dX6_readPerson_169 ki_1 rfl ?_
          refine Ev.iadd (q := 171) dX6_readPerson_170 rfl ?_
          refine pI (q := 174) dX6_readPerson_171 gfX6_174 k3 rfl rfl ?_
          refine rV dX6_readPerson_174 rfl ?_
          unfold peS
          rw [if_neg hfull, bE_l hea]
          exact ⟨((((((((x7).up _ _ (by decide)).up _ _ (by decide)).up _ _ (by decide)).up _ _ (by decide)).up _ _ (by decide)).up _ _ (by decide)).up _ _ (by decide)).up _ _ (by decide), (((((((((f9.tr f7).pc).up (pc_t (by omega))).up (pc_t (by omega))).up (pc_t (by omega))).up (pc_t (by omega))).up (pc_t (by omega))).up (pc_t (by omega))).up (pc_t (by omega))).up (pc_t (by omega))⟩
        · skip
          exact absurd (by assumption) x7.2.1
    | inr t1 =>
      have x7 : PTc M7 (eaS tx N 8 (nxS tx N t)) := x7
      rw [hea] at x7
      have x7 : OKc M7 t1 := x7
      obtain ⟨q1, q2, q3, q4⟩ := ea_T hT99 (by decide) hea
      refine Ev.aload_n (q := 32) dX6_readPerson_31 rfl rfl ?_
      refine gR (q := 35) dX6_readPerson_32 gfX6_12 k2 r2_0 rfl rfl ?_
      refine gI (q := 38) dX6_readPerson_35 gfX6_174 k3 rfl rfl ?_
      rw [hR7.1.2.2.2, hl9]
      refine istore_n_1 (q := 39) dX6_readPerson_38 rfl rfl rfl ?_
      refine Ev.aload_n (q := 40) dX6_readPerson_39 rfl rfl ?_
      refine gR (q := 43) dX6_readPerson_40 gfX6_12 k2 r2_0 rfl rfl ?_
      refine gR (q := 46) dX6_readPerson_43 gfX6_179 k3 r3_6 rfl rfl ?_
      refine Ev.iload_n (q := 47) dX6_readPerson_46 rfl rfl ?_
      refine Ev.aload_n (q := 48) dX6_readPerson_47 rfl rfl ?_
      refine Ev.iconst (q := 49) dX6_readPerson_48 ki_0 rfl ?_
      refine Ev.aload_n (q := 50) dX6_readPerson_49 rfl rfl ?_
      refine gR (q := 53) dX6_readPerson_50 gfX6_12 k2 r2_0 rfl rfl ?_
      refine gI (q := 56) dX6_readPerson_53 gfX6_73 k3 rfl rfl ?_
      first | rw [hR7.1.1] | rw [hR7.1.1.1]
      refine Ev.iconst (q := 57) dX6_readPerson_56 ki_1 rfl ?_
      refine Ev.isub (q := 58) dX6_readPerson_57 rfl ?_
      rw [w32_of (by omega) (by omega)]
      refine cV2i (q := 61) (d' := d + 8) dX6_readPerson_58 mlX6_69 moX6_expectNumber mvX6_expectNumber k2 rfl rfl rfl (Nat.le_refl _) rfl rfl rfl (p_X6_expectNumber tx N t1 0 (f 1 - 1) hN hC7 q2 x7) (fun r61 m61 e61 => ?_)
      obtain ⟨M8, rfl⟩ : ∃ M8, M8 = m61 := ⟨_, rfl⟩
      obtain ⟨x8, f8⟩ := e61
      have hR8 := hR7.tf f8
      cases hx : nuS tx N 0 (f 1 - 1) t1 with
      | inl e =>
        rw [hx] at x8
        obtain ⟨xr, x8⟩ : _ = 0 ∧ BDc M8 e := x8
        rw [xr]
        refine sI (q := 62) (k := p) dX6_readPerson_61 k6 (by first | rfl | omega | (simp (disch := omega) only [w32_of]; omega)) (by omega) rfl ?_
        refine Ev.aload_n (q := 63) dX6_readPerson_62 rfl rfl ?_
        refine gR (q := 66) dX6_readPerson_63 gfX6_12 k2 r2_0 rfl rfl ?_
        refine gR (q := 69) dX6_readPerson_66 gfX6_181 k3 r3_7 rfl rfl ?_
        refine Ev.iload_n (q := 70) dX6_readPerson_69 rfl rfl ?_
        refine Ev.iconst (q := 71) dX6_readPerson_70 ki_0 rfl ?_
        refine sI (q := 72) (k := p) dX6_readPerson_71 k7 (by first | rfl | omega | (simp (disch := omega) only [w32_of]; omega)) (by omega) rfl ?_
        refine Ev.aload_n (q := 73) dX6_readPerson_72 rfl rfl ?_
        refine gR (q := 76) dX6_readPerson_73 gfX6_12 k2 r2_0 rfl rfl ?_
        refine gR (q := 79) dX6_readPerson_76 gfX6_184 k3 r3_8 rfl rfl ?_
        refine Ev.iload_n (q := 80) dX6_readPerson_79 rfl rfl ?_
        refine Ev.iconst (q := 81) dX6_readPerson_80 ki_0 rfl ?_
        refine sI (q := 82) (k := p) dX6_readPerson_81 k8 (by first | rfl | omega | (simp (disch := omega) only [w32_of]; omega)) (by omega) rfl ?_
        refine Ev.aload_n (q := 83) dX6_readPerson_82 rfl rfl ?_
        refine gR (q := 86) dX6_readPerson_83 gfX6_12 k2 r2_0 rfl rfl ?_
        refine gR (q := 89) dX6_readPerson_86 gfX6_187 k3 r3_9 rfl rfl ?_
        refine Ev.iload_n (q := 90) dX6_readPerson_89 rfl rfl ?_
        refine Ev.iconst (q := 91) dX6_readPerson_90 ki_1 rfl ?_
        refine sI (q := 92) (k := p) dX6_readPerson_91 k9 (by first | rfl | omega | (simp (disch := omega) only [w32_of]; omega)) (by omega) rfl ?_
        refine Ev.aload_n (q := 93) dX6_readPerson_92 rfl rfl ?_
        refine gR (q := 96) dX6_readPerson_93 gfX6_21 k2 r2_1 rfl rfl ?_
        refine gR (q := 99) dX6_readPerson_96 gfX6_190 k14 r14_4 rfl rfl ?_
        refine Ev.iload_n (q := 100) dX6_readPerson_99 rfl rfl ?_
        refine Ev.iconst (q := 101) dX6_readPerson_100 ki_0 rfl ?_
        refine sI (q := 102) (k := p) dX6_readPerson_101 k19 (by first | rfl | omega | (simp (disch := omega) only [w32_of]; omega)) (by omega) rfl ?_
        refine Ev.aload_n (q := 103) dX6_readPerson_102 rfl rfl ?_
        refine gR (q := 106) dX6_readPerson_103 gfX6_21 k2 r2_1 rfl rfl ?_
        refine gR (q := 109) dX6_readPerson_106 gfX6_193 k14 r14_5 rfl rfl ?_
        refine Ev.iload_n (q := 110) dX6_readPerson_109 rfl rfl ?_
        refine Ev.iconst (q := 111) dX6_readPerson_110 ki_0 rfl ?_
        refine sI (q := 112) (k := p) dX6_readPerson_111 k20 (by first | rfl | omega | (simp (disch := omega) only [w32_of]; omega)) (by omega) rfl ?_
        refine Ev.aload_n (q := 113) dX6_readPerson_112 rfl rfl ?_
        refine gR (q := 116) dX6_readPerson_113 gfX6_21 k2 r2_1 rfl rfl ?_
        refine gR (q := 119) dX6_readPerson_116 gfX6_196 k14 r14_6 rfl rfl ?_
        refine Ev.iload_n (q := 120) dX6_readPerson_119 rfl rfl ?_
        refine Ev.iconst (q := 121) dX6_readPerson_120 ki_m1 rfl ?_
        refine sI (q := 122) (k := p) dX6_readPerson_121 k21 (by first | rfl | omega | (simp (disch := omega) only [w32_of]; omega)) (by omega) rfl ?_
        refine Ev.iconst (q := 123) dX6_readPerson_122 ki_0 rfl ?_
        refine istore_n_2 (q := 124) dX6_readPerson_123 rfl rfl rfl ?_
        refine Ev.iload_n (q := 125) dX6_readPerson_124 rfl rfl ?_
        refine Ev.sipush (q := 128) dX6_readPerson_125 kh_900 rfl ?_
        refine Ev.icmp_ge (tgt := 161) (q := 131) dX6_readPerson_128 (by decide) rfl (fun h91 => ?_) (fun h91 => ?_)
        · skip
          refine Ev.aload_n (q := 162) dX6_readPerson_161 rfl rfl ?_
          refine gR (q := 165) dX6_readPerson_162 gfX6_12 k2 r2_0 rfl rfl ?_
          refine Ev.dup (q := 166) dX6_readPerson_165 (fun z => by cases z) rfl ?_
          refine gI (q := 169) dX6_readPerson_166 gfX6_174 k3 rfl rfl ?_
          refine Ev.iconst (q := 170) dX6_readPerson_169 ki_1 rfl ?_
          refine Ev.iadd (q := 171) dX6_readPerson_170 rfl ?_
          refine pI (q := 174) dX6_readPerson_171 gfX6_174 k3 rfl rfl ?_
          refine rV dX6_readPerson_174 rfl ?_
          unfold peS
          rw [if_neg hfull, bE_r hea, bE_l hx]
          exact ⟨((((((((x8).up _ _ (by decide)).up _ _ (by decide)).up _ _ (by decide)).up _ _ (by decide)).up _ _ (by decide)).up _ _ (by decide)).up _ _ (by decide)).up _ _ (by decide), (((((((((f9.tr (f7.tr f8)).pc).up (pc_t (by omega))).up (pc_t (by omega))).up (pc_t (by omega))).up (pc_t (by omega))).up (pc_t (by omega))).up (pc_t (by omega))).up (pc_t (by omega))).up (pc_t (by omega))⟩
        · skip
          refine Ev.aload_n (q := 132) dX6_readPerson_131 rfl rfl ?_
          refine gI (q := 135) dX6_readPerson_132 gfX6_25 k2 rfl rfl ?_
          first | rw [((((((((x8).up _ _ (by decide)).up _ _ (by decide)).up _ _ (by decide)).up _ _ (by decide)).up _ _ (by decide)).up _ _ (by decide)).up _ _ (by decide)).1] | rw [((((((((x8).up _ _ (by decide)).up _ _ (by decide)).up _ _ (by decide)).up _ _ (by decide)).up _ _ (by decide)).up _ _ (by decide)).up _ _ (by decide)).1.1]
          refine Ev.if_ne (tgt := 161) (q := 138) dX6_readPerson_135 (by decide) rfl (fun h92 => ?_) (fun h92 => ?_)
          · skip
            refine Ev.aload_n (q := 162) dX6_readPerson_161 rfl rfl ?_
            refine gR (q := 165) dX6_readPerson_162 gfX6_12 k2 r2_0 rfl rfl ?_
            refine Ev.dup (q := 166) dX6_readPerson_165 (fun z => by cases z) rfl ?_
            refine gI (q := 169) dX6_readPerson_166 gfX6_174 k3 rfl rfl ?_
            refine Ev.iconst (q := 170) dX6_readPerson_169 ki_1 rfl ?_
            refine Ev.iadd (q := 171) dX6_readPerson_170 rfl ?_
            refine pI (q := 174) dX6_readPerson_171 gfX6_174 k3 rfl rfl ?_
            refine rV dX6_readPerson_174 rfl ?_
            unfold peS
            rw [if_neg hfull, bE_r hea, bE_l hx]
            exact ⟨((((((((x8).up _ _ (by decide)).up _ _ (by decide)).up _ _ (by decide)).up _ _ (by decide)).up _ _ (by decide)).up _ _ (by decide)).up _ _ (by decide)).up _ _ (by decide), (((((((((f9.tr (f7.tr f8)).pc).up (pc_t (by omega))).up (pc_t (by omega))).up (pc_t (by omega))).up (pc_t (by omega))).up (pc_t (by omega))).up (pc_t (by omega))).up (pc_t (by omega))).up (pc_t (by omega))⟩
          · skip
            exact absurd (by assumption) x8.2.1
      | inr a =>
        rw [hx] at x8
        obtain ⟨xr, x8⟩ : _ = a.1 ∧ OKc M8 a.2 := x8
        obtain ⟨n1, n2, n3, n5, hle2⟩ := nu_T q2 hx
        rw [xr]
        refine sI (q := 62) (k := p) dX6_readPerson_61 k6 (by first | rfl | omega | (simp (disch := omega) only [w32_of]; omega)) (by omega) rfl ?_
        refine Ev.aload_n (q := 63) dX6_readPerson_62 rfl rfl ?_
        refine gR (q := 66) dX6_readPerson_63 gfX6_12 k2 r2_0 rfl rfl ?_
        refine gR (q := 69) dX6_readPerson_66 gfX6_181 k3 r3_7 rfl rfl ?_
        refine Ev.iload_n (q := 70) dX6_readPerson_69 rfl rfl ?_
        refine Ev.iconst (q := 71) dX6_readPerson_70 ki_0 rfl ?_
        refine sI (q := 72) (k := p) dX6_readPerson_71 k7 (by first | rfl | omega | (simp (disch := omega) only [w32_of]; omega)) (by omega) rfl ?_
        refine Ev.aload_n (q := 73) dX6_readPerson_72 rfl rfl ?_
        refine gR (q := 76) dX6_readPerson_73 gfX6_12 k2 r2_0 rfl rfl ?_
        refine gR (q := 79) dX6_readPerson_76 gfX6_184 k3 r3_8 rfl rfl ?_
        refine Ev.iload_n (q := 80) dX6_readPerson_79 rfl rfl ?_
        refine Ev.iconst (q := 81) dX6_readPerson_80 ki_0 rfl ?_
        refine sI (q := 82) (k := p) dX6_readPerson_81 k8 (by first | rfl | omega | (simp (disch := omega) only [w32_of]; omega)) (by omega) rfl ?_
        refine Ev.aload_n (q := 83) dX6_readPerson_82 rfl rfl ?_
        refine gR (q := 86) dX6_readPerson_83 gfX6_12 k2 r2_0 rfl rfl ?_
        refine gR (q := 89) dX6_readPerson_86 gfX6_187 k3 r3_9 rfl rfl ?_
        refine Ev.iload_n (q := 90) dX6_readPerson_89 rfl rfl ?_
        refine Ev.iconst (q := 91) dX6_readPerson_90 ki_1 rfl ?_
        refine sI (q := 92) (k := p) dX6_readPerson_91 k9 (by first | rfl | omega | (simp (disch := omega) only [w32_of]; omega)) (by omega) rfl ?_
        refine Ev.aload_n (q := 93) dX6_readPerson_92 rfl rfl ?_
        refine gR (q := 96) dX6_readPerson_93 gfX6_21 k2 r2_1 rfl rfl ?_
        refine gR (q := 99) dX6_readPerson_96 gfX6_190 k14 r14_4 rfl rfl ?_
        refine Ev.iload_n (q := 100) dX6_readPerson_99 rfl rfl ?_
        refine Ev.iconst (q := 101) dX6_readPerson_100 ki_0 rfl ?_
        refine sI (q := 102) (k := p) dX6_readPerson_101 k19 (by first | rfl | omega | (simp (disch := omega) only [w32_of]; omega)) (by omega) rfl ?_
        refine Ev.aload_n (q := 103) dX6_readPerson_102 rfl rfl ?_
        refine gR (q := 106) dX6_readPerson_103 gfX6_21 k2 r2_1 rfl rfl ?_
        refine gR (q := 109) dX6_readPerson_106 gfX6_193 k14 r14_5 rfl rfl ?_
        refine Ev.iload_n (q := 110) dX6_readPerson_109 rfl rfl ?_
        refine Ev.iconst (q := 111) dX6_readPerson_110 ki_0 rfl ?_
        refine sI (q := 112) (k := p) dX6_readPerson_111 k20 (by first | rfl | omega | (simp (disch := omega) only [w32_of]; omega)) (by omega) rfl ?_
        refine Ev.aload_n (q := 113) dX6_readPerson_112 rfl rfl ?_
        refine gR (q := 116) dX6_readPerson_113 gfX6_21 k2 r2_1 rfl rfl ?_
        refine gR (q := 119) dX6_readPerson_116 gfX6_196 k14 r14_6 rfl rfl ?_
        refine Ev.iload_n (q := 120) dX6_readPerson_119 rfl rfl ?_
        refine Ev.iconst (q := 121) dX6_readPerson_120 ki_m1 rfl ?_
        refine sI (q := 122) (k := p) dX6_readPerson_121 k21 (by first | rfl | omega | (simp (disch := omega) only [w32_of]; omega)) (by omega) rfl ?_
        refine Ev.iconst (q := 123) dX6_readPerson_122 ki_0 rfl ?_
        refine istore_n_2 (q := 124) dX6_readPerson_123 rfl rfl rfl ?_
        have hch := RC_21 (RC_20 (RC_19 (RC_9 (RC_8 (RC_7 (RC_6 hR8 (by omega) (by omega) (k := p) (by omega) a.1) (by omega) (by omega) (k := p) (by omega) 0) (by omega) (by omega) (k := p) (by omega) 0) (by omega) (by omega) (k := p) (by omega) 1) (by omega) (by omega) (k := p) (by omega) 0) (by omega) (by omega) (k := p) (by omega) 0) (by omega) (by omega) (k := p) (by omega) (-1)
        rw [hl9, Int.toNat_natCast] at hch
        have hfu := RC.moreP hch (by refine ⟨?_, ?_, ?_, ?_, ?_, ?_, ?_⟩ <;> simp (disch := omega) only [up_o, up_k, up_eq, upg_eq, upg_ne])
        rw [row_p (by omega) ((hZ.2 p (by omega)).2 (by omega)).1 ((hZ.2 p (by omega)).2 (by omega)).2 (hZ.2 p (by omega)).1] at hfu
        refine (lc_X6_readPerson (m0 := m) tx N p (f 2).toNat hN (by omega) (by omega) (N + 1) a.2 _ _ 0 ((((((((x8).up _ _ (by decide)).up _ _ (by decide)).up _ _ (by decide)).up _ _ (by decide)).up _ _ (by decide)).up _ _ (by decide)).up _ _ (by decide)) n3 ((((((((hC7.f f8).up _ _ (by decide)).up _ _ (by decide)).up _ _ (by decide)).up _ _ (by decide)).up _ _ (by decide)).up _ _ (by decide)).up _ _ (by decide)) hfu ((((hRI.up (by omega) _).up (by omega) _).up (by omega) _).up (by omega) _) (by rw [upg_ne _ _ (by omega), upg_ne _ _ (by omega), upg_ne _ _ (by omega), upg_ne _ _ (by omega)]; exact hl9) (by rw [upg_ne _ _ (by omega), upg_ne _ _ (by omega), upg_ne _ _ (by omega), upg_ne _ _ (by omega)]; omega) (by omega) (by omega) (((((((((f9.tr (f7.tr f8)).pc).up (pc_t (by omega))).up (pc_t (by omega))).up (pc_t (by omega))).up (pc_t (by omega))).up (pc_t (by omega))).up (pc_t (by omega))).up (pc_t (by omega)))).imp ?_
        intro r9 m9 h9
        unfold peS
        rw [if_neg hfull, bE_r hea, bE_r hx, hl9, Int.toNat_natCast]
        exact h9
  · skip
    refine Ev.aload_n (q := 13) dX6_readPerson_12 rfl rfl ?_
    refine Ev.iconst (q := 14) dX6_readPerson_13 ki_4 rfl ?_
    refine cV1v (q := 17) (d' := d + 8) dX6_readPerson_14 mlX6_118 moX6_fail mvX6_fail k2 rfl rfl rfl (Nat.le_refl _) rfl rfl rfl (p_X6_fail tx N t 4 hT9 (by decide) h) (fun r4 m4 e4 => ?_)
    obtain ⟨b1, b2, b3⟩ := e4
    refine rV dX6_readPerson_17 rfl ?_
    have hfull : f 3 = 8 := by omega
    unfold peS
    rw [if_pos hfull]
    exact ⟨b1, b2.pc⟩
