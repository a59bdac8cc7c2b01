/-! ===== the class: lifts, people, calls are read ===== -/
def PLc (m : Mem) (f : Row) (L P l : Nat) (x : Er (Nat × Tok)) : Prop := match x with
  | .inl e => BDc m e
  | .inr a => OKc m a.2 ∧ RC m (upg f (66 + l) (a.1 : Int)) L P
def PFc (m : Mem) (t : Tok) (L P : Nat) (x : Option (Er (Tok × Row))) : Prop := match x with
  | none => BDc m ((if t.1 = 25 then 1 else 2), t.2.1)
  | some (.inl e) => BDc m e
  | some (.inr a) => OKc m a.1 ∧ RC m a.2 L P
def PMc (m : Mem) (L P : Nat) (x : Er (Tok × Row)) : Prop := match x with
  | .inl e => BDc m e
  | .inr a => OKc m a.1 ∧ RC m a.2 L P
theorem pc_t {a k : Nat} (h : (3 ≤ a ∧ a ≤ 21) ∨ (24 ≤ a ∧ a ≤ 32)) : sPc a k = true := decide_eq_true (by omega)
set_option maxRecDepth 4000 in
theorem lc_readLit {Γ : Gm} {d : Nat} {m0 : Mem} (tx : Nat → Int) (N l L P : Nat) (f : Row) (hN : N ≤ 900) (hl : l < L) (hL : L ≤ 3) (hP : P ≤ 8) (hf1 : 2 ≤ f 1 ∧ f 1 ≤ 12) : ∀ (n : Nat) (t : Tok) (s : Nat) (M : Mem) (k : Nat), OKc M t → tT tx N t → TC M tx N → RC M f L P → N - t.2.1 + 1 ≤ n → k + 1 ≤ t.2.1 → s < 2 ^ 12 → Fr sPc m0 M → Em Γ (d + 2) MX6_readLit (fun r m' => PLc m' f L P l (litR tx N (f (60 + l)) (f 1 - 1) n s t) ∧ Fr sPc m0 m') 7 [rv 2, iv l, iv s, iv 1, iv k] [] M := by
  intro n
  induction n with
  | zero => intro t s M k h hT9 hC hR hn; omega
  | succ n ih =>
    intro t s M k h hT9 hC hR hn hk hs hF
    have hle := tO_le hT9.ok
    have hkc := kcl_w hT9.ok.2.2.2.1
    refine Ev.iload (q := 9) dX6_readLit_7 rfl rfl ?_
    refine Ev.sipush (q := 12) dX6_readLit_9 kh_900 rfl ?_
    refine Ev.icmp_ge (tgt := 103) (q := 15) dX6_readLit_12 (by decide) rfl (fun h1 => ?_) (fun h1 => ?_)
    · skip
      omega
    · skip
      refine Ev.iload_n (q := 16) dX6_readLit_15 rfl rfl ?_
      refine Ev.if_eq (tgt := 103) (q := 19) dX6_readLit_16 (by decide) rfl (fun h2 => ?_) (fun h2 => ?_)
      · skip
        omega
      · skip
        refine Ev.aload_n (q := 20) dX6_readLit_19 rfl rfl ?_
        refine gR (q := 23) dX6_readLit_20 gfX6_35 k2 r2_4 rfl rfl ?_
        refine gI (q := 26) dX6_readLit_23 gfX6_79 k22 rfl rfl ?_
        first | rw [h.2.1] | rw [h.2.1.1]
        refine Ev.iconst (q := 27) dX6_readLit_26 ki_2 rfl ?_
        refine Ev.icmp_ne (tgt := 54) (q := 30) dX6_readLit_27 (by decide) rfl (fun h3 => ?_) (fun h3 => ?_)
        · skip
          have hk23 : ¬ t.1 = 23 := by omega
          have hown : ¬ (t.1 = 23 ∧ t.2.2.2 = f (60 + l)) := fun z => hk23 z.1
          refine Ev.iload_n (q := 55) dX6_readLit_54 rfl rfl ?_
          refine Ev.iconst (q := 56) dX6_readLit_55 ki_1 rfl ?_
          refine Ev.aload_n (q := 57) dX6_readLit_56 rfl rfl ?_
          refine Ev.iconst (q := 58) dX6_readLit_57 ki_0 rfl ?_
          refine Ev.aload_n (q := 59) dX6_readLit_58 rfl rfl ?_
          refine gR (q := 62) dX6_readLit_59 gfX6_12 k2 r2_0 rfl rfl ?_
          refine gI (q := 65) dX6_readLit_62 gfX6_73 k3 rfl rfl ?_
          first | rw [hR.1.1] | rw [hR.1.1.1]
          refine Ev.iconst (q := 66) dX6_readLit_65 ki_1 rfl ?_
          refine Ev.isub (q := 67) dX6_readLit_66 rfl ?_
          rw [w32_of (by omega) (by omega)]
          refine cV2i (q := 70) (d' := d + 1) dX6_readLit_67 mlX6_69 moX6_expectNumber mvX6_expectNumber k2 rfl rfl rfl (Nat.le_refl _) rfl rfl rfl (p_X6_expectNumber tx N t 0 (f 1 - 1) hN hC hT9 h) (fun r51 m51 e51 => ?_)
          obtain ⟨M8, rfl⟩ : ∃ M8, M8 = m51 := ⟨_, rfl⟩
          obtain ⟨x8, f8⟩ := e51
          have hR8 := hR.tf f8
          cases hx : nuS tx N 0 (f 1 - 1) t with
          | inl e =>
            rw [hx] at x8
            obtain ⟨x8r, x8⟩ : _ = 0 ∧ BDc M8 e := x8
            rw [x8r]
            refine Ev.ishl (q := 71) dX6_readLit_70 rfl ?_
            rw [show o_ishl 1 0 = ((1 : Nat) : Int) by decide]
            refine Ev.ior (q := 72) dX6_readLit_71 rfl ?_
            rw [ior_n (k := 12) hs (by decide) (by decide)]
            refine istore_n_2 (q := 73) dX6_readLit_72 rfl rfl rfl ?_
            refine Ev.aload_n (q := 74) dX6_readLit_73 rfl rfl ?_
            refine gI (q := 77) dX6_readLit_74 gfX6_25 k2 rfl rfl ?_
            first | rw [x8.1] | rw [x8.1.1]
            refine Ev.if_ne (tgt := 95) (q := 80) dX6_readLit_77 (by decide) rfl (fun h61 => ?_) (fun h61 => ?_)
            · skip
              refine Ev.iconst (q := 96) dX6_readLit_95 ki_0 rfl ?_
              refine istore_n_3 (q := 97) dX6_readLit_96 rfl rfl rfl ?_
              refine iinc_4 (q := 100) dX6_readLit_97 rfl rfl rfl ?_
              refine Ev.goto (q := 7) dX6_readLit_100 (by decide) ?_
              refine Ev.iload (q := 9) dX6_readLit_7 rfl rfl ?_
              refine Ev.sipush (q := 12) dX6_readLit_9 kh_900 rfl ?_
              refine Ev.icmp_ge (tgt := 103) (q := 15) dX6_readLit_12 (by decide) rfl (fun h62 => ?_) (fun h62 => ?_)
              · skip
                refine Ev.aload_n (q := 104) dX6_readLit_103 rfl rfl ?_
                refine gR (q := 107) dX6_readLit_104 gfX6_21 k2 r2_1 rfl rfl ?_
                refine gR (q := 110) dX6_readLit_107 gfX6_143 k14 r14_2 rfl rfl ?_
                refine Ev.iload_n (q := 111) dX6_readLit_110 rfl rfl ?_
                refine Ev.iload_n (q := 112) dX6_readLit_111 rfl rfl ?_
                refine sI (q := 113) (k := l) dX6_readLit_112 k17 (by first | rfl | omega | (simp (disch := omega) only [w32_of]; omega)) (by omega) rfl ?_
                refine rV dX6_readLit_113 rfl ?_
                rw [litR_el hown hx]
                exact ⟨x8.up _ _ (by decide), (hF.tr f8.pc).up (pc_t (by omega))⟩
              · skip
                refine Ev.iload_n (q := 16) dX6_readLit_15 rfl rfl ?_
                refine Ev.if_eq (tgt := 103) (q := 19) dX6_readLit_16 (by decide) rfl (fun h63 => ?_) (fun h63 => ?_)
                · skip
                  refine Ev.aload_n (q := 104) dX6_readLit_103 rfl rfl ?_
                  refine gR (q := 107) dX6_readLit_104 gfX6_21 k2 r2_1 rfl rfl ?_
                  refine gR (q := 110) dX6_readLit_107 gfX6_143 k14 r14_2 rfl rfl ?_
                  refine Ev.iload_n (q := 111) dX6_readLit_110 rfl rfl ?_
                  refine Ev.iload_n (q := 112) dX6_readLit_111 rfl rfl ?_
                  refine sI (q := 113) (k := l) dX6_readLit_112 k17 (by first | rfl | omega | (simp (disch := omega) only [w32_of]; omega)) (by omega) rfl ?_
                  refine rV dX6_readLit_113 rfl ?_
                  rw [litR_el hown hx]
                  exact ⟨x8.up _ _ (by decide), (hF.tr f8.pc).up (pc_t (by omega))⟩
                · skip
                  omega
            · skip
              exact absurd (by assumption) x8.2.1
          | inr a =>
            rw [hx] at x8
            obtain ⟨xr, x8⟩ : _ = a.1 ∧ OKc M8 a.2 := x8
            obtain ⟨n1, n2, n3, n5, hle2⟩ := nu_T hT9 hx
            rw [xr, show a.1 = ((a.1.toNat : Nat) : Int) by omega]
            refine Ev.ishl (q := 71) dX6_readLit_70 rfl ?_
            rw [ishl_1 _ (by omega)]
            refine Ev.ior (q := 72) dX6_readLit_71 rfl ?_
            rw [ior_n (k := 12) hs (two_lt (by omega)) (by decide)]
            refine istore_n_2 (q := 73) dX6_readLit_72 rfl rfl rfl ?_
            refine Ev.aload_n (q := 74) dX6_readLit_73 rfl rfl ?_
            refine gI (q := 77) dX6_readLit_74 gfX6_25 k2 rfl rfl ?_
            first | rw [x8.1] | rw [x8.1.1]
            refine Ev.if_ne (tgt := 95) (q := 80) dX6_readLit_77 (by decide) rfl (fun h61 => ?_) (fun h61 => ?_)
            · skip
              omega
            · skip
              refine Ev.aload_n (q := 81) dX6_readLit_80 rfl rfl ?_
              refine gR (q := 84) dX6_readLit_81 gfX6_35 k2 r2_4 rfl rfl ?_
              refine gI (q := 87) dX6_readLit_84 gfX6_79 k22 rfl rfl ?_
              first | rw [x8.2.1] | rw [x8.2.1.1]
              refine Ev.iconst (q := 88) dX6_readLit_87 ki_2 rfl ?_
              refine Ev.icmp_ne (tgt := 95) (q := 91) dX6_readLit_88 (by decide) rfl (fun h62 => ?_) (fun h62 => ?_)
              · skip
                refine Ev.iconst (q := 96) dX6_readLit_95 ki_0 rfl ?_
                refine istore_n_3 (q := 97) dX6_readLit_96 rfl rfl rfl ?_
                refine iinc_4 (q := 100) dX6_readLit_97 rfl rfl rfl ?_
                refine Ev.goto (q := 7) dX6_readLit_100 (by decide) ?_
                have hd : ¬ a.2.1 = 23 := by have := kcl_w n3.ok.2.2.2.1; omega
                rw [w32_of (by omega) (by omega), show (k : Int) + 1 = ((k + 1 : Nat) : Int) by omega]
                refine Ev.iload (q := 9) dX6_readLit_7 rfl rfl ?_
                refine Ev.sipush (q := 12) dX6_readLit_9 kh_900 rfl ?_
                refine Ev.icmp_ge (tgt := 103) (q := 15) dX6_readLit_12 (by decide) rfl (fun h81 => ?_) (fun h81 => ?_)
                · skip
                  refine Ev.aload_n (q := 104) dX6_readLit_103 rfl rfl ?_
                  refine gR (q := 107) dX6_readLit_104 gfX6_21 k2 r2_1 rfl rfl ?_
                  refine gR (q := 110) dX6_readLit_107 gfX6_143 k14 r14_2 rfl rfl ?_
                  refine Ev.iload_n (q := 111) dX6_readLit_110 rfl rfl ?_
                  refine Ev.iload_n (q := 112) dX6_readLit_111 rfl rfl ?_
                  refine sI (q := 113) (k := l) dX6_readLit_112 k17 (by first | rfl | omega | (simp (disch := omega) only [w32_of]; omega)) (by omega) rfl ?_
                  refine rV dX6_readLit_113 rfl ?_
                  rw [litR_r hown hx, if_neg hd]
                  exact ⟨⟨x8.up _ _ (by decide), RC_17 (hR8) hL hP (by omega) _⟩, (hF.tr f8.pc).up (pc_t (by omega))⟩
                · skip
                  refine Ev.iload_n (q := 16) dX6_readLit_15 rfl rfl ?_
                  refine Ev.if_eq (tgt := 103) (q := 19) dX6_readLit_16 (by decide) rfl (fun h82 => ?_) (fun h82 => ?_)
                  · skip
                    refine Ev.aload_n (q := 104) dX6_readLit_103 rfl rfl ?_
                    refine gR (q := 107) dX6_readLit_104 gfX6_21 k2 r2_1 rfl rfl ?_
                    refine gR (q := 110) dX6_readLit_107 gfX6_143 k14 r14_2 rfl rfl ?_
                    refine Ev.iload_n (q := 111) dX6_readLit_110 rfl rfl ?_
                    refine Ev.iload_n (q := 112) dX6_readLit_111 rfl rfl ?_
                    refine sI (q := 113) (k := l) dX6_readLit_112 k17 (by first | rfl | omega | (simp (disch := omega) only [w32_of]; omega)) (by omega) rfl ?_
                    refine rV dX6_readLit_113 rfl ?_
                    rw [litR_r hown hx, if_neg hd]
                    exact ⟨⟨x8.up _ _ (by decide), RC_17 (hR8) hL hP (by omega) _⟩, (hF.tr f8.pc).up (pc_t (by omega))⟩
                  · skip
                    omega
              · skip
                refine Ev.iconst (q := 92) dX6_readLit_91 ki_1 rfl ?_
                refine Ev.goto (q := 96) dX6_readLit_92 (by decide) ?_
                refine istore_n_3 (q := 97) dX6_readLit_96 rfl rfl rfl ?_
                refine iinc_4 (q := 100) dX6_readLit_97 rfl rfl rfl ?_
                refine Ev.goto (q := 7) dX6_readLit_100 (by decide) ?_
                have hd : a.2.1 = 23 := by have := kcl_w n3.ok.2.2.2.1; omega
                rw [w32_of (by omega) (by omega), litR_r hown hx, if_pos hd]
                exact ih a.2 _ M8 (k + 1) x8 n3 (hC.f f8) hR8 (by omega) (by omega) (Nat.or_lt_two_pow hs (two_lt (by omega))) (hF.tr f8.pc)
        · skip
          have hk23 : t.1 = 23 := by omega
          have hnum : M 22 5 = t.2.2.2 := h.2.2.2.2 hk23
          refine Ev.aload_n (q := 31) dX6_readLit_30 rfl rfl ?_
          refine gR (q := 34) dX6_readLit_31 gfX6_35 k2 r2_4 rfl rfl ?_
          refine gI (q := 37) dX6_readLit_34 gfX6_171 k22 rfl rfl ?_
          rw [hnum]
          refine Ev.aload_n (q := 38) dX6_readLit_37 rfl rfl ?_
          refine gR (q := 41) dX6_readLit_38 gfX6_21 k2 r2_1 rfl rfl ?_
          refine gR (q := 44) dX6_readLit_41 gfX6_137 k14 r14_0 rfl rfl ?_
          refine Ev.iload_n (q := 45) dX6_readLit_44 rfl rfl ?_
          refine aI (q := 46) (k := l) dX6_readLit_45 k15 (by first | rfl | omega | (simp (disch := omega) only [w32_of]; omega)) (by omega) rfl ?_
          first | rw [(hR.2.2.1 l hl).2.2.1] | rw [(hR.2.2.1 l hl).2.2.1.1]
          refine Ev.icmp_ne (tgt := 54) (q := 49) dX6_readLit_46 (by decide) rfl (fun h4 => ?_) (fun h4 => ?_)
          · skip
            have hown : ¬ (t.1 = 23 ∧ t.2.2.2 = f (60 + l)) := fun z => by have := z.2; omega
            refine Ev.iload_n (q := 55) dX6_readLit_54 rfl rfl ?_
            refine Ev.iconst (q := 56) dX6_readLit_55 ki_1 rfl ?_
            refine Ev.aload_n (q := 57) dX6_readLit_56 rfl rfl ?_
            refine Ev.iconst (q := 58) dX6_readLit_57 ki_0 rfl ?_
            refine Ev.aload_n (q := 59) dX6_readLit_58 rfl rfl ?_
            refine gR (q := 62) dX6_readLit_59 gfX6_12 k2 r2_0 rfl rfl ?_
            refine gI (q := 65) dX6_readLit_62 gfX6_73 k3 rfl rfl ?_
            first | rw [hR.1.1] | rw [hR.1.1.1]
            refine Ev.iconst (q := 66) dX6_readLit_65 ki_1 rfl ?_
            refine Ev.isub (q := 67) dX6_readLit_66 rfl ?_
            rw [w32_of (by omega) (by omega)]
            refine cV2i (q := 70) (d' := d + 1) dX6_readLit_67 mlX6_69 moX6_expectNumber mvX6_expectNumber k2 rfl rfl rfl (Nat.le_refl _) rfl rfl rfl (p_X6_expectNumber tx N t 0 (f 1 - 1) hN hC hT9 h) (fun r51 m51 e51 => ?_)
            obtain ⟨M8, rfl⟩ : ∃ M8, M8 = m51 := ⟨_, rfl⟩
            obtain ⟨x8, f8⟩ := e51
            have hR8 := hR.tf f8
            cases hx : nuS tx N 0 (f 1 - 1) t with
            | inl e =>
              rw [hx] at x8
              obtain ⟨x8r, x8⟩ : _ = 0 ∧ BDc M8 e := x8
              rw [x8r]
              refine Ev.ishl (q := 71) dX6_readLit_70 rfl ?_
              rw [show o_ishl 1 0 = ((1 : Nat) : Int) by decide]
              refine Ev.ior (q := 72) dX6_readLit_71 rfl ?_
              rw [ior_n (k := 12) hs (by decide) (by decide)]
              refine istore_n_2 (q := 73) dX6_readLit_72 rfl rfl rfl ?_
              refine Ev.aload_n (q := 74) dX6_readLit_73 rfl rfl ?_
              refine gI (q := 77) dX6_readLit_74 gfX6_25 k2 rfl rfl ?_
              first | rw [x8.1] | rw [x8.1.1]
              refine Ev.if_ne (tgt := 95) (q := 80) dX6_readLit_77 (by decide) rfl (fun h61 => ?_) (fun h61 => ?_)
              · skip
                refine Ev.iconst (q := 96) dX6_readLit_95 ki_0 rfl ?_
                refine istore_n_3 (q := 97) dX6_readLit_96 rfl rfl rfl ?_
                refine iinc_4 (q := 100) dX6_readLit_97 rfl rfl rfl ?_
                refine Ev.goto (q := 7) dX6_readLit_100 (by decide) ?_
                refine Ev.iload (q := 9) dX6_readLit_7 rfl rfl ?_
                refine Ev.sipush (q := 12) dX6_readLit_9 kh_900 rfl ?_
                refine Ev.icmp_ge (tgt := 103) (q := 15) dX6_readLit_12 (by decide) rfl (fun h62 => ?_) (fun h62 => ?_)
                · skip
                  refine Ev.aload_n (q := 104) dX6_readLit_103 rfl rfl ?_
                  refine gR (q := 107) dX6_readLit_104 gfX6_21 k2 r2_1 rfl rfl ?_
                  refine gR (q := 110) dX6_readLit_107 gfX6_143 k14 r14_2 rfl rfl ?_
                  refine Ev.iload_n (q := 111) dX6_readLit_110 rfl rfl ?_
                  refine Ev.iload_n (q := 112) dX6_readLit_111 rfl rfl ?_
                  refine sI (q := 113) (k := l) dX6_readLit_112 k17 (by first | rfl | omega | (simp (disch := omega) only [w32_of]; omega)) (by omega) rfl ?_
                  refine rV dX6_readLit_113 rfl ?_
                  rw [litR_el hown hx]
                  exact ⟨x8.up _ _ (by decide), (hF.tr f8.pc).up (pc_t (by omega))⟩
                · skip
                  refine Ev.iload_n (q := 16) dX6_readLit_15 rfl rfl ?_
                  refine Ev.if_eq (tgt := 103) (q := 19) dX6_readLit_16 (by decide) rfl (fun h63 => ?_) (fun h63 => ?_)
                  · skip
                    refine Ev.aload_n (q := 104) dX6_readLit_103 rfl rfl ?_
                    refine gR (q := 107) dX6_readLit_104 gfX6_21 k2 r2_1 rfl rfl ?_
                    refine gR (q := 110) dX6_readLit_107 gfX6_143 k14 r14_2 rfl rfl ?_
                    refine Ev.iload_n (q := 111) dX6_readLit_110 rfl rfl ?_
                    refine Ev.iload_n (q := 112) dX6_readLit_111 rfl rfl ?_
                    refine sI (q := 113) (k := l) dX6_readLit_112 k17 (by first | rfl | omega | (simp (disch := omega) only [w32_of]; omega)) (by omega) rfl ?_
                    refine rV dX6_readLit_113 rfl ?_
                    rw [litR_el hown hx]
                    exact ⟨x8.up _ _ (by decide), (hF.tr f8.pc).up (pc_t (by omega))⟩
                  · skip
                    omega
              · skip
                exact absurd (by assumption) x8.2.1
            | inr a =>
              rw [hx] at x8
              obtain ⟨xr, x8⟩ : _ = a.1 ∧ OKc M8 a.2 := x8
              obtain ⟨n1, n2, n3, n5, hle2⟩ := nu_T hT9 hx
              rw [xr, show a.1 = ((a.1.toNat : Nat) : Int) by omega]
              refine Ev.ishl (q := 71) dX6_readLit_70 rfl ?_
              rw [ishl_1 _ (by omega)]
              refine Ev.ior (q := 72) dX6_readLit_71 rfl ?_
              rw [ior_n (k := 12) hs (two_lt (by omega)) (by decide)]
              refine istore_n_2 (q := 73) dX6_readLit_72 rfl rfl rfl ?_
              refine Ev.aload_n (q := 74) dX6_readLit_73 rfl rfl ?_
              refine gI (q := 77) dX6_readLit_74 gfX6_25 k2 rfl rfl ?_
              first | rw [x8.1] | rw [x8.1.1]
              refine Ev.if_ne (tgt := 95) (q := 80) dX6_readLit_77 (by decide) rfl (fun h61 => ?_) (fun h61 => ?_)
              · skip
                omega
              · skip
                refine Ev.aload_n (q := 81) dX6_readLit_80 rfl rfl ?_
                refine gR (q := 84) dX6_readLit_81 gfX6_35 k2 r2_4 rfl rfl ?_
                refine gI (q := 87) dX6_readLit_84 gfX6_79 k22 rfl rfl ?_
                first | rw [x8.2.1] | rw [x8.2.1.1]
                refine Ev.iconst (q := 88) dX6_readLit_87 ki_2 rfl ?_
                refine Ev.icmp_ne (tgt := 95) (q := 91) dX6_readLit_88 (by decide) rfl (fun h62 => ?_) (fun h62 => ?_)
                · skip
                  refine Ev.iconst (q := 96) dX6_readLit_95 ki_0 rfl ?_
                  refine istore_n_3 (q := 97) dX6_readLit_96 rfl rfl rfl ?_
                  refine iinc_4 (q := 100) dX6_readLit_97 rfl rfl rfl ?_
                  refine Ev.goto (q := 7) dX6_readLit_100 (by decide) ?_
                  have hd : ¬ a.2.1 = 23 := by have := kcl_w n3.ok.2.2.2.1; omega
                  rw [w32_of (by omega) (by omega), show (k : Int) + 1 = ((k + 1 : Nat) : Int) by omega]
                  refine Ev.iload (q := 9) dX6_readLit_7 rfl rfl ?_
                  refine Ev.sipush (q := 12) dX6_readLit_9 kh_900 rfl ?_
                  refine Ev.icmp_ge (tgt := 103) (q := 15) dX6_readLit_12 (by decide) rfl (fun h81 => ?_) (fun h81 => ?_)
                  · skip
                    refine Ev.aload_n (q := 104) dX6_readLit_103 rfl rfl ?_
                    refine gR (q := 107) dX6_readLit_104 gfX6_21 k2 r2_1 rfl rfl ?_
                    refine gR (q := 110) dX6_readLit_107 gfX6_143 k14 r14_2 rfl rfl ?_
                    refine Ev.iload_n (q := 111) dX6_readLit_110 rfl rfl ?_
                    refine Ev.iload_n (q := 112) dX6_readLit_111 rfl rfl ?_
                    refine sI (q := 113) (k := l) dX6_readLit_112 k17 (by first | rfl | omega | (simp (disch := omega) only [w32_of]; omega)) (by omega) rfl ?_
                    refine rV dX6_readLit_113 rfl ?_
                    rw [litR_r hown hx, if_neg hd]
                    exact ⟨⟨x8.up _ _ (by decide), RC_17 (hR8) hL hP (by omega) _⟩, (hF.tr f8.pc).up (pc_t (by omega))⟩
                  · skip
                    refine Ev.iload_n (q := 16) dX6_readLit_15 rfl rfl ?_
                    refine Ev.if_eq (tgt := 103) (q := 19) dX6_readLit_16 (by decide) rfl (fun h82 => ?_) (fun h82 => ?_)
                    · skip
                      refine Ev.aload_n (q := 104) dX6_readLit_103 rfl rfl ?_
                      refine gR (q := 107) dX6_readLit_104 gfX6_21 k2 r2_1 rfl rfl ?_
                      refine gR (q := 110) dX6_readLit_107 gfX6_143 k14 r14_2 rfl rfl ?_
                      refine Ev.iload_n (q := 111) dX6_readLit_110 rfl rfl ?_
                      refine Ev.iload_n (q := 112) dX6_readLit_111 rfl rfl ?_
                      refine sI (q := 113) (k := l) dX6_readLit_112 k17 (by first | rfl | omega | (simp (disch := omega) only [w32_of]; omega)) (by omega) rfl ?_
                      refine rV dX6_readLit_113 rfl ?_
                      rw [litR_r hown hx, if_neg hd]
                      exact ⟨⟨x8.up _ _ (by decide), RC_17 (hR8) hL hP (by omega) _⟩, (hF.tr f8.pc).up (pc_t (by omega))⟩
                    · skip
                      omega
                · skip
                  refine Ev.iconst (q := 92) dX6_readLit_91 ki_1 rfl ?_
                  refine Ev.goto (q := 96) dX6_readLit_92 (by decide) ?_
                  refine istore_n_3 (q := 97) dX6_readLit_96 rfl rfl rfl ?_
                  refine iinc_4 (q := 100) dX6_readLit_97 rfl rfl rfl ?_
                  refine Ev.goto (q := 7) dX6_readLit_100 (by decide) ?_
                  have hd : a.2.1 = 23 := by have := kcl_w n3.ok.2.2.2.1; omega
                  rw [w32_of (by omega) (by omega), litR_r hown hx, if_pos hd]
                  exact ih a.2 _ M8 (k + 1) x8 n3 (hC.f f8) hR8 (by omega) (by omega) (Nat.or_lt_two_pow hs (two_lt (by omega))) (hF.tr f8.pc)
          · skip
            have hown : t.1 = 23 ∧ t.2.2.2 = f (60 + l) := ⟨hk23, by omega⟩
            refine Ev.aload_n (q := 50) dX6_readLit_49 rfl rfl ?_
            refine Ev.iconst (q := 51) dX6_readLit_50 ki_3 rfl ?_
            refine cV1v (q := 54) (d' := d + 1) dX6_readLit_51 mlX6_118 moX6_fail mvX6_fail k2 rfl rfl rfl (Nat.le_refl _) rfl rfl rfl (p_X6_fail tx N t 3 hT9 (by decide) h) (fun r5 m5 e5 => ?_)
            obtain ⟨M9, rfl⟩ : ∃ M9, M9 = m5 := ⟨_, rfl⟩
            obtain ⟨b1, b2, b3⟩ := e5
            refine Ev.iload_n (q := 55) dX6_readLit_54 rfl rfl ?_
            refine Ev.iconst (q := 56) dX6_readLit_55 ki_1 rfl ?_
            refine Ev.aload_n (q := 57) dX6_readLit_56 rfl rfl ?_
            refine Ev.iconst (q := 58) dX6_readLit_57 ki_0 rfl ?_
            refine Ev.aload_n (q := 59) dX6_readLit_58 rfl rfl ?_
            refine gR (q := 62) dX6_readLit_59 gfX6_12 k2 r2_0 rfl rfl ?_
            refine gI (q := 65) dX6_readLit_62 gfX6_73 k3 rfl rfl ?_
            refine Ev.iconst (q := 66) dX6_readLit_65 ki_1 rfl ?_
            refine Ev.isub (q := 67) dX6_readLit_66 rfl ?_
            refine cV2i (q := 70) (d' := d + 1) dX6_readLit_67 mlX6_69 moX6_expectNumber mvX6_expectNumber k2 rfl rfl rfl (Nat.le_refl _) rfl rfl rfl (p_X6_expectNumber_bd _ _ _ b1) (fun r51 m51 e51 => ?_)
            obtain ⟨rfl, e51⟩ := e51
            obtain rfl := e51.symm
            refine Ev.ishl (q := 71) dX6_readLit_70 rfl ?_
            rw [show o_ishl 1 0 = ((1 : Nat) : Int) by decide]
            refine Ev.ior (q := 72) dX6_readLit_71 rfl ?_
            rw [ior_n (k := 12) hs (by decide) (by decide)]
            refine istore_n_2 (q := 73) dX6_readLit_72 rfl rfl rfl ?_
            refine Ev.aload_n (q := 74) dX6_readLit_73 rfl rfl ?_
            refine gI (q := 77) dX6_readLit_74 gfX6_25 k2 rfl rfl ?_
            first | rw [b1.1] | rw [b1.1.1]
            refine Ev.if_ne (tgt := 95) (q := 80) dX6_readLit_77 (by decide) rfl (fun h52 => ?_) (fun h52 => ?_)
            · skip
              refine Ev.iconst (q := 96) dX6_readLit_95 ki_0 rfl ?_
              refine istore_n_3 (q := 97) dX6_readLit_96 rfl rfl rfl ?_
              refine iinc_4 (q := 100) dX6_readLit_97 rfl rfl rfl ?_
              refine Ev.goto (q := 7) dX6_readLit_100 (by decide) ?_
              refine Ev.iload (q := 9) dX6_readLit_7 rfl rfl ?_
              refine Ev.sipush (q := 12) dX6_readLit_9 kh_900 rfl ?_
              refine Ev.icmp_ge (tgt := 103) (q := 15) dX6_readLit_12 (by decide) rfl (fun h53 => ?_) (fun h53 => ?_)
              · skip
                refine Ev.aload_n (q := 104) dX6_readLit_103 rfl rfl ?_
                refine gR (q := 107) dX6_readLit_104 gfX6_21 k2 r2_1 rfl rfl ?_
                refine gR (q := 110) dX6_readLit_107 gfX6_143 k14 r14_2 rfl rfl ?_
                refine Ev.iload_n (q := 111) dX6_readLit_110 rfl rfl ?_
                refine Ev.iload_n (q := 112) dX6_readLit_111 rfl rfl ?_
                refine sI (q := 113) (k := l) dX6_readLit_112 k17 (by first | rfl | omega | (simp (disch := omega) only [w32_of]; omega)) (by omega) rfl ?_
                refine rV dX6_readLit_113 rfl ?_
                rw [litR_own hown]
                exact ⟨b1.up _ _ (by decide), (hF.tr b2.pc).up (pc_t (by omega))⟩
              · skip
                refine Ev.iload_n (q := 16) dX6_readLit_15 rfl rfl ?_
                refine Ev.if_eq (tgt := 103) (q := 19) dX6_readLit_16 (by decide) rfl (fun h54 => ?_) (fun h54 => ?_)
                · skip
                  refine Ev.aload_n (q := 104) dX6_readLit_103 rfl rfl ?_
                  refine gR (q := 107) dX6_readLit_104 gfX6_21 k2 r2_1 rfl rfl ?_
                  refine gR (q := 110) dX6_readLit_107 gfX6_143 k14 r14_2 rfl rfl ?_
                  refine Ev.iload_n (q := 111) dX6_readLit_110 rfl rfl ?_
                  refine Ev.iload_n (q := 112) dX6_readLit_111 rfl rfl ?_
                  refine sI (q := 113) (k := l) dX6_readLit_112 k17 (by first | rfl | omega | (simp (disch := omega) only [w32_of]; omega)) (by omega) rfl ?_
                  refine rV dX6_readLit_113 rfl ?_
                  rw [litR_own hown]
                  exact ⟨b1.up _ _ (by decide), (hF.tr b2.pc).up (pc_t (by omega))⟩
                · skip
                  omega
            · skip
              exact absurd (by assumption) b1.2.1
set_option maxRecDepth 4000 in
theorem p_X6_readLit {Γ : Gm} {d : Nat} {m : Mem} (tx : Nat → Int) (N : Nat) (t : Tok) (f : Row) (L P l : Nat) (hN : N ≤ 900) (hC : TC m tx N) (hT9 : tT tx N t) (h : OKc m t) (hR : RC m f L P) (hf1 : 2 ≤ f 1 ∧ f 1 ≤ 12) (hL : L ≤ 3) (hP : P ≤ 8) (hl : l < L) (h1 : 1 ≤ t.2.1) : Ci Γ (d + 2) MX6_readLit [rv 2, iv l] m (fun r m' => PLc m' f L P l (litR tx N (f (60 + l)) (f 1 - 1) (N + 1) 0 t) ∧ Fr sPc m m') := by
  refine Ci.of moX6_readLit rfl rfl (fun hA hM => ?_)
  show Em Γ (d + 2) MX6_readLit _ 0 [rv 2, iv l, uv, uv, uv] [] m
  refine Ev.iconst (q := 1) dX6_readLit_0 ki_0 rfl ?_
  refine istore_n_2 (q := 2) dX6_readLit_1 rfl rfl rfl ?_
  refine Ev.iconst (q := 3) dX6_readLit_2 ki_1 rfl ?_
  refine istore_n_3 (q := 4) dX6_readLit_3 rfl rfl rfl ?_
  refine Ev.iconst (q := 5) dX6_readLit_4 ki_0 rfl ?_
  refine istore_4 (q := 7) dX6_readLit_5 rfl rfl rfl ?_
  have hle := tO_le hT9.ok
  exact lc_readLit (m0 := m) tx N l L P f hN hl hL hP hf1 (N + 1) t 0 m 0 h hT9 hC hR (by omega) (by omega) (by decide) (Fr.rf _ _)
set_option maxRecDepth 4000 in
theorem p_X6_readLiftFlag {Γ : Gm} {d : Nat} {m : Mem} (tx : Nat → Int) (N : Nat) (t : Tok) (f : Row) (L P l : Nat) (hN : N ≤ 900) (hC : TC m tx N) (hT9 : tT tx N t) (h : OKc m t) (hR : RC m f L P) (hf1 : 2 ≤ f 1 ∧ f 1 ≤ 12) (hL : L ≤ 3) (hP : P ≤ 8) (hl : l < L) : Ci Γ (d + 6) MX6_readLiftFlag [rv 2, iv l] m (fun r m' => PFc m' t L P (lf1 tx N l t f) ∧ Fr sPc m m') := by
  refine Ci.of moX6_readLiftFlag rfl rfl (fun hA hM => ?_)
  show Em Γ (d + 6) MX6_readLiftFlag _ 0 [rv 2, iv l] [] m
  refine Ev.aload_n (q := 1) dX6_readLiftFlag_0 rfl rfl ?_
  refine Ev.ldcS (q := 3) dX6_readLiftFlag_1 (i := 3) rfl rfl ?_
  refine cV1i (q := 6) (d' := d + 5) dX6_readLiftFlag_3 mlX6_160 moX6_takesWord mvX6_takesWord k2 rfl rfl rfl (Nat.le_refl _) rfl rfl rfl (p_X6_takesWord tx N t 3 hN hC hT9 h (by decide)) (fun r1 m1 e1 => ?_)
  obtain ⟨M9, rfl⟩ : ∃ M9, M9 = m1 := ⟨_, rfl⟩
  obtain ⟨ey, en⟩ := e1
  refine Ev.if_eq (tgt := 28) (q := 9) dX6_readLiftFlag_6 (by decide) rfl (fun h2 => ?_) (fun h2 => ?_)
  · skip
    have hn3 : ¬ t.1 = 3 := fun z => by have := (ey z).1; omega
    obtain ⟨-, rfl⟩ := en hn3
    refine Ev.aload_n (q := 29) dX6_readLiftFlag_28 rfl rfl ?_
    refine Ev.ldcS (q := 31) dX6_readLiftFlag_29 (i := 4) rfl rfl ?_
    refine cV1i (q := 34) (d' := d + 5) dX6_readLiftFlag_31 mlX6_160 moX6_takesWord mvX6_takesWord k2 rfl rfl rfl (Nat.le_refl _) rfl rfl rfl (p_X6_takesWord tx N t 4 hN hC hT9 h (by decide)) (fun r3 m3 e3 => ?_)
    obtain ⟨M9, rfl⟩ : ∃ M9, M9 = m3 := ⟨_, rfl⟩
    obtain ⟨ey, en⟩ := e3
    refine Ev.if_eq (tgt := 53) (q := 37) dX6_readLiftFlag_34 (by decide) rfl (fun h4 => ?_) (fun h4 => ?_)
    · skip
      have hn4 : ¬ t.1 = 4 := fun z => by have := (ey z).1; omega
      obtain ⟨-, rfl⟩ := en hn4
      refine Ev.aload_n (q := 54) dX6_readLiftFlag_53 rfl rfl ?_
      refine Ev.ldcS (q := 56) dX6_readLiftFlag_54 (i := 5) rfl rfl ?_
      refine cV1i (q := 59) (d' := d + 5) dX6_readLiftFlag_56 mlX6_160 moX6_takesWord mvX6_takesWord k2 rfl rfl rfl (Nat.le_refl _) rfl rfl rfl (p_X6_takesWord tx N t 5 hN hC hT9 h (by decide)) (fun r5 m5 e5 => ?_)
      obtain ⟨M9, rfl⟩ : ∃ M9, M9 = m5 := ⟨_, rfl⟩
      obtain ⟨ey, en⟩ := e5
      refine Ev.if_eq (tgt := 70) (q := 62) dX6_readLiftFlag_59 (by decide) rfl (fun h6 => ?_) (fun h6 => ?_)
      · skip
        have hn5 : ¬ t.1 = 5 := fun z => by have := (ey z).1; omega
        obtain ⟨-, rfl⟩ := en hn5
        refine Ev.aload_n (q := 71) dX6_readLiftFlag_70 rfl rfl ?_
        refine Ev.ldcS (q := 73) dX6_readLiftFlag_71 (i := 6) rfl rfl ?_
        refine cV1i (q := 76) (d' := d + 5) dX6_readLiftFlag_73 mlX6_160 moX6_takesWord mvX6_takesWord k2 rfl rfl rfl (Nat.le_refl _) rfl rfl rfl (p_X6_takesWord tx N t 6 hN hC hT9 h (by decide)) (fun r7 m7 e7 => ?_)
        obtain ⟨M9, rfl⟩ : ∃ M9, M9 = m7 := ⟨_, rfl⟩
        obtain ⟨ey, en⟩ := e7
        refine Ev.if_eq (tgt := 92) (q := 79) dX6_readLiftFlag_76 (by decide) rfl (fun h8 => ?_) (fun h8 => ?_)
        · skip
          have hn6 : ¬ t.1 = 6 := fun z => by have := (ey z).1; omega
          obtain ⟨-, rfl⟩ := en hn6
          refine Ev.aload_n (q := 93) dX6_readLiftFlag_92 rfl rfl ?_
          refine Ev.iconst (q := 94) dX6_readLiftFlag_93 ki_2 rfl ?_
          refine cV1v (q := 97) (d' := d + 5) dX6_readLiftFlag_94 mlX6_118 moX6_fail mvX6_fail k2 rfl rfl rfl (Nat.le_refl _) rfl rfl rfl (p_X6_fail tx N t 2 hT9 (by decide) h) (fun r9 m9 e9 => ?_)
          obtain ⟨b1, b2, b3⟩ := e9
          refine rV dX6_readLiftFlag_97 rfl ?_
          have hun : lf1 tx N l t f = none := by unfold lf1; rw [if_neg hn3, if_neg hn4, if_neg hn5, if_neg hn6]
          rw [hun]
          exact ⟨b1, b2.pc⟩
        · skip
          have hk : t.1 = 6 := Classical.byContradiction fun z => by have := (en z).1; omega
          obtain ⟨-, x9, f9⟩ := ey hk
          have hC9 := hC.f f9
          have hT99 := hT9.nx
          have hR9 := hR.tf f9
          have h24 := nx_lt hT9.ok (show ¬ t.1 = 24 by omega)
          rw [lf1_6 hk]
          refine Ev.aload_n (q := 80) dX6_readLiftFlag_79 rfl rfl ?_
          refine gR (q := 83) dX6_readLiftFlag_80 gfX6_21 k2 r2_1 rfl rfl ?_
          refine gR (q := 86) dX6_readLiftFlag_83 gfX6_146 k14 r14_3 rfl rfl ?_
          refine Ev.iload_n (q := 87) dX6_readLiftFlag_86 rfl rfl ?_
          refine Ev.iconst (q := 88) dX6_readLiftFlag_87 ki_0 rfl ?_
          refine sI (q := 89) (k := l) dX6_readLiftFlag_88 k18 (by first | rfl | omega | (simp (disch := omega) only [w32_of]; omega)) (by omega) rfl ?_
          refine Ev.goto (q := 97) dX6_readLiftFlag_89 (by decide) ?_
          refine rV dX6_readLiftFlag_97 rfl ?_
          exact ⟨⟨x9.up _ _ (by decide), RC_18 hR9 hL hP (by omega) _⟩, f9.pc.up (pc_t (by omega))⟩
      · skip
        have hk : t.1 = 5 := Classical.byContradiction fun z => by have := (en z).1; omega
        obtain ⟨-, x9, f9⟩ := ey hk
        have hC9 := hC.f f9
        have hT99 := hT9.nx
        have hR9 := hR.tf f9
        have h24 := nx_lt hT9.ok (show ¬ t.1 = 24 by omega)
        rw [lf1_5 hk]
        refine Ev.aload_n (q := 63) dX6_readLiftFlag_62 rfl rfl ?_
        refine Ev.iload_n (q := 64) dX6_readLiftFlag_63 rfl rfl ?_
        refine cV1v (q := 67) (d' := d + 5) dX6_readLiftFlag_64 mlX6_166 moX6_readLit mvX6_readLit k2 rfl rfl rfl (Nat.le_refl _) rfl rfl rfl (p_X6_readLit tx N (nxS tx N t) f L P l hN hC9 hT99 x9 hR9 hf1 hL hP hl (by omega)) (fun r10 m10 e10 => ?_)
        obtain ⟨M8, rfl⟩ : ∃ M8, M8 = m10 := ⟨_, rfl⟩
        obtain ⟨x8, f8⟩ := e10
        cases hx : litR tx N (f (60 + l)) (f 1 - 1) (N + 1) 0 (nxS tx N t) with
        | inl e =>
          rw [hx] at x8
          refine Ev.goto (q := 97) dX6_readLiftFlag_67 (by decide) ?_
          refine rV dX6_readLiftFlag_97 rfl ?_
          exact ⟨x8, f9.pc.tr f8⟩
        | inr a =>
          rw [hx] at x8
          refine Ev.goto (q := 97) dX6_readLiftFlag_67 (by decide) ?_
          refine rV dX6_readLiftFlag_97 rfl ?_
          exact ⟨x8, f9.pc.tr f8⟩
    · skip
      have hk : t.1 = 4 := Classical.byContradiction fun z => by have := (en z).1; omega
      obtain ⟨-, x9, f9⟩ := ey hk
      have hC9 := hC.f f9
      have hT99 := hT9.nx
      have hR9 := hR.tf f9
      have h24 := nx_lt hT9.ok (show ¬ t.1 = 24 by omega)
      rw [lf1_4 hk]
      refine Ev.aload_n (q := 38) dX6_readLiftFlag_37 rfl rfl ?_
      refine gR (q := 41) dX6_readLiftFlag_38 gfX6_39 k2 r2_5 rfl rfl ?_
      refine Ev.iload_n (q := 42) dX6_readLiftFlag_41 rfl rfl ?_
      refine Ev.aload_n (q := 43) dX6_readLiftFlag_42 rfl rfl ?_
      refine Ev.iconst (q := 44) dX6_readLiftFlag_43 ki_0 rfl ?_
      refine Ev.bipush (q := 46) dX6_readLiftFlag_44 kb_99 rfl ?_
      refine cV2i (q := 49) (d' := d + 5) dX6_readLiftFlag_46 mlX6_69 moX6_expectNumber mvX6_expectNumber k2 rfl rfl rfl (Nat.le_refl _) rfl rfl rfl (p_X6_expectNumber tx N (nxS tx N t) 0 99 hN hC9 hT99 x9) (fun r11 m11 e11 => ?_)
      obtain ⟨M8, rfl⟩ : ∃ M8, M8 = m11 := ⟨_, rfl⟩
      obtain ⟨x8, f8⟩ := e11
      have hR8 := hR9.tf f8
      cases hx : nuS tx N 0 99 (nxS tx N t) with
      | inl e =>
        rw [hx] at x8
        obtain ⟨xr, x8⟩ : _ = 0 ∧ BDc M8 e := x8
        rw [xr]
        refine sI (q := 50) (k := l) dX6_readLiftFlag_49 k24 (by first | rfl | omega | (simp (disch := omega) only [w32_of]; omega)) (by omega) rfl ?_
        refine Ev.goto (q := 97) dX6_readLiftFlag_50 (by decide) ?_
        refine rV dX6_readLiftFlag_97 rfl ?_
        exact ⟨x8.up _ _ (by decide), ((f9.tr f8).pc).up (pc_t (by omega))⟩
      | inr a =>
        rw [hx] at x8
        obtain ⟨xr, x8⟩ : _ = a.1 ∧ OKc M8 a.2 := x8
        obtain ⟨n1, n2, n3, n5, hle2⟩ := nu_T hT99 hx
        rw [xr]
        refine sI (q := 50) (k := l) dX6_readLiftFlag_49 k24 (by first | rfl | omega | (simp (disch := omega) only [w32_of]; omega)) (by omega) rfl ?_
        refine Ev.goto (q := 97) dX6_readLiftFlag_50 (by decide) ?_
        refine rV dX6_readLiftFlag_97 rfl ?_
        exact ⟨⟨x8.up _ _ (by decide), RC_24 hR8 hL hP (by omega) _⟩, ((f9.tr f8).pc).up (pc_t (by omega))⟩
  · skip
    have hk : t.1 = 3 := Classical.byContradiction fun z => by have := (en z).1; omega
    obtain ⟨-, x9, f9⟩ := ey hk
    have hC9 := hC.f f9
    have hT99 := hT9.nx
    have hR9 := hR.tf f9
    have h24 := nx_lt hT9.ok (show ¬ t.1 = 24 by omega)
    rw [lf1_3 hk]
    refine Ev.aload_n (q := 10) dX6_readLiftFlag_9 rfl rfl ?_
    refine gR (q := 13) dX6_readLiftFlag_10 gfX6_12 k2 r2_0 rfl rfl ?_
    refine gR (q := 16) dX6_readLiftFlag_13 gfX6_149 k3 r3_5 rfl rfl ?_
    refine Ev.iload_n (q := 17) dX6_readLiftFlag_16 rfl rfl ?_
    refine Ev.aload_n (q := 18) dX6_readLiftFlag_17 rfl rfl ?_
    refine Ev.iconst (q := 19) dX6_readLiftFlag_18 ki_1 rfl ?_
    refine Ev.bipush (q := 21) dX6_readLiftFlag_19 kb_60 rfl ?_
    refine cV2i (q := 24) (d' := d + 5) dX6_readLiftFlag_21 mlX6_69 moX6_expectNumber mvX6_expectNumber k2 rfl rfl rfl (Nat.le_refl _) rfl rfl rfl (p_X6_expectNumber tx N (nxS tx N t) 1 60 hN hC9 hT99 x9) (fun r12 m12 e12 => ?_)
    obtain ⟨M8, rfl⟩ : ∃ M8, M8 = m12 := ⟨_, rfl⟩
    obtain ⟨x8, f8⟩ := e12
    have hR8 := hR9.tf f8
    cases hx : nuS tx N 1 60 (nxS tx N t) with
    | inl e =>
      rw [hx] at x8
      obtain ⟨xr, x8⟩ : _ = 0 ∧ BDc M8 e := x8
      rw [xr]
      refine sI (q := 25) (k := l) dX6_readLiftFlag_24 k5 (by first | rfl | omega | (simp (disch := omega) only [w32_of]; omega)) (by omega) rfl ?_
      refine Ev.goto (q := 97) dX6_readLiftFlag_25 (by decide) ?_
      refine rV dX6_readLiftFlag_97 rfl ?_
      exact ⟨x8.up _ _ (by decide), ((f9.tr f8).pc).up (pc_t (by omega))⟩
    | inr a =>
      rw [hx] at x8
      obtain ⟨xr, x8⟩ : _ = a.1 ∧ OKc M8 a.2 := x8
      obtain ⟨n1, n2, n3, n5, hle2⟩ := nu_T hT99 hx
      rw [xr]
      refine sI (q := 25) (k := l) dX6_readLiftFlag_24 k5 (by first | rfl | omega | (simp (disch := omega) only [w32_of]; omega)) (by omega) rfl ?_
      refine Ev.goto (q := 97) dX6_readLiftFlag_25 (by decide) ?_
      refine rV dX6_readLiftFlag_97 rfl ?_
      exact ⟨⟨x8.up _ _ (by decide), RC_5 hR8 hL hP (by omega) _⟩, ((f9.tr f8).pc).up (pc_t (by omega))⟩
set_option maxRecDepth 4000 in
theorem p_X6_readPersonFlag {Γ : Gm} {d : Nat} {m : Mem} (tx : Nat → Int) (N : Nat) (t : Tok) (f : Row) (L P p : Nat) (hN : N ≤ 900) (hC : TC m tx N) (hT9 : tT tx N t) (h : OKc m t) (hR : RC m f L P) (hf1 : 2 ≤ f 1 ∧ f 1 ≤ 12) (hL : L ≤ 3) (hP : P ≤ 8) (hp : p < P) (hf2 : f 2 = (L : Int)) : Ci Γ (d + 6) MX6_readPersonFlag [rv 2, iv p] m (fun r m' => PFc m' t L P (pf1 tx N p t f) ∧ Fr sPc m m') := by
  refine Ci.of moX6_readPersonFlag rfl rfl (fun hA hM => ?_)
  show Em Γ (d + 6) MX6_readPersonFlag _ 0 [rv 2, iv p, uv] [] m
  refine Ev.aload_n (q := 1) dX6_readPersonFlag_0 rfl rfl ?_
  refine Ev.ldcS (q := 3) dX6_readPersonFlag_1 (i := 2) rfl rfl ?_
  refine cV1i (q := 6) (d' := d + 5) dX6_readPersonFlag_3 mlX6_160 moX6_takesWord mvX6_takesWord k2 rfl rfl rfl (Nat.le_refl _) rfl rfl rfl (p_X6_takesWord tx N t 2 hN hC hT9 h (by decide)) (fun r1 m1 e1 => ?_)
  obtain ⟨M9, rfl⟩ : ∃ M9, M9 = m1 := ⟨_, rfl⟩
  obtain ⟨ey, en⟩ := e1
  refine Ev.if_eq (tgt := 45) (q := 9) dX6_readPersonFlag_6 (by decide) rfl (fun h2 => ?_) (fun h2 => ?_)
  · skip
    have hn2 : ¬ t.1 = 2 := fun z => by have := (ey z).1; omega
    obtain ⟨-, rfl⟩ := en hn2
    refine Ev.aload_n (q := 46) dX6_readPersonFlag_45 rfl rfl ?_
    refine Ev.ldcS (q := 48) dX6_readPersonFlag_46 (i := 9) rfl rfl ?_
    refine cV1i (q := 51) (d' := d + 5) dX6_readPersonFlag_48 mlX6_160 moX6_takesWord mvX6_takesWord k2 rfl rfl rfl (Nat.le_refl _) rfl rfl rfl (p_X6_takesWord tx N t 9 hN hC hT9 h (by decide)) (fun r3 m3 e3 => ?_)
    obtain ⟨M9, rfl⟩ : ∃ M9, M9 = m3 := ⟨_, rfl⟩
    obtain ⟨ey, en⟩ := e3
    refine Ev.if_eq (tgt := 100) (q := 54) dX6_readPersonFlag_51 (by decide) rfl (fun h4 => ?_) (fun h4 => ?_)
    · skip
      have hn9 : ¬ t.1 = 9 := fun z => by have := (ey z).1; omega
      obtain ⟨-, rfl⟩ := en hn9
      refine Ev.aload_n (q := 101) dX6_readPersonFlag_100 rfl rfl ?_
      refine Ev.ldcS (q := 103) dX6_readPersonFlag_101 (i := 10) rfl rfl ?_
      refine cV1i (q := 106) (d' := d + 5) dX6_readPersonFlag_103 mlX6_160 moX6_takesWord mvX6_takesWord k2 rfl rfl rfl (Nat.le_refl _) rfl rfl rfl (p_X6_takesWord tx N t 10 hN hC hT9 h (by decide)) (fun r5 m5 e5 => ?_)
      obtain ⟨M9, rfl⟩ : ∃ M9, M9 = m5 := ⟨_, rfl⟩
      obtain ⟨ey, en⟩ := e5
      refine Ev.if_eq (tgt := 128) (q := 109) dX6_readPersonFlag_106 (by decide) rfl (fun h6 => ?_) (fun h6 => ?_)
      · skip
        have hn10 : ¬ t.1 = 10 := fun z => by have := (ey z).1; omega
        obtain ⟨-, rfl⟩ := en hn10
        refine Ev.aload_n (q := 129) dX6_readPersonFlag_128 rfl rfl ?_
        refine Ev.ldcS (q := 131) dX6_readPersonFlag_129 (i := 11) rfl rfl ?_
        refine cV1i (q := 134) (d' := d + 5) dX6_readPersonFlag_131 mlX6_160 moX6_takesWord mvX6_takesWord k2 rfl rfl rfl (Nat.le_refl _) rfl rfl rfl (p_X6_takesWord tx N t 11 hN hC hT9 h (by decide)) (fun r7 m7 e7 => ?_)
        obtain ⟨M9, rfl⟩ : ∃ M9, M9 = m7 := ⟨_, rfl⟩
        obtain ⟨ey, en⟩ := e7
        refine Ev.if_eq (tgt := 156) (q := 137) dX6_readPersonFlag_134 (by decide) rfl (fun h8 => ?_) (fun h8 => ?_)
        · skip
          have hn11 : ¬ t.1 = 11 := fun z => by have := (ey z).1; omega
          obtain ⟨-, rfl⟩ := en hn11
          refine Ev.aload_n (q := 157) dX6_readPersonFlag_156 rfl rfl ?_
          refine Ev.ldcS (q := 159) dX6_readPersonFlag_157 (i := 12) rfl rfl ?_
          refine cV1i (q := 162) (d' := d + 5) dX6_readPersonFlag_159 mlX6_160 moX6_takesWord mvX6_takesWord k2 rfl rfl rfl (Nat.le_refl _) rfl rfl rfl (p_X6_takesWord tx N t 12 hN hC hT9 h (by decide)) (fun r9 m9 e9 => ?_)
          obtain ⟨M9, rfl⟩ : ∃ M9, M9 = m9 := ⟨_, rfl⟩
          obtain ⟨ey, en⟩ := e9
          refine Ev.if_eq (tgt := 184) (q := 165) dX6_readPersonFlag_162 (by decide) rfl (fun h10 => ?_) (fun h10 => ?_)
          · skip
            have hn12 : ¬ t.1 = 12 := fun z => by have := (ey z).1; omega
            obtain ⟨-, rfl⟩ := en hn12
            refine Ev.aload_n (q := 185) dX6_readPersonFlag_184 rfl rfl ?_
            refine Ev.iconst (q := 186) dX6_readPersonFlag_185 ki_2 rfl ?_
            refine cV1v (q := 189) (d' := d + 5) dX6_readPersonFlag_186 mlX6_118 moX6_fail mvX6_fail k2 rfl rfl rfl (Nat.le_refl _) rfl rfl rfl (p_X6_fail tx N t 2 hT9 (by decide) h) (fun r11 m11 e11 => ?_)
            obtain ⟨b1, b2, b3⟩ := e11
            refine rV dX6_readPersonFlag_189 rfl ?_
            have hun : pf1 tx N p t f = none := by unfold pf1; rw [if_neg hn2, if_neg hn9, if_neg hn10, if_neg hn11, if_neg hn12]
            rw [hun]
            exact ⟨b1, b2.pc⟩
          · skip
            have hk : t.1 = 12 := Classical.byContradiction fun z => by have := (en z).1; omega
            obtain ⟨-, x9, f9⟩ := ey hk
            have hC9 := hC.f f9
            have hT99 := hT9.nx
            have hR9 := hR.tf f9
            have h24 := nx_lt hT9.ok (show ¬ t.1 = 24 by omega)
            rw [pf1_12 hk]
            refine Ev.aload_n (q := 166) dX6_readPersonFlag_165 rfl rfl ?_
            refine gR (q := 169) dX6_readPersonFlag_166 gfX6_12 k2 r2_0 rfl rfl ?_
            refine gR (q := 172) dX6_readPersonFlag_169 gfX6_187 k3 r3_9 rfl rfl ?_
            refine Ev.iload_n (q := 173) dX6_readPersonFlag_172 rfl rfl ?_
            refine Ev.aload_n (q := 174) dX6_readPersonFlag_173 rfl rfl ?_
            refine Ev.iconst (q := 175) dX6_readPersonFlag_174 ki_1 rfl ?_
            refine Ev.bipush (q := 177) dX6_readPersonFlag_175 kb_99 rfl ?_
            refine cV2i (q := 180) (d' := d + 5) dX6_readPersonFlag_177 mlX6_69 moX6_expectNumber mvX6_expectNumber k2 rfl rfl rfl (Nat.le_refl _) rfl rfl rfl (p_X6_expectNumber tx N (nxS tx N t) 1 99 hN hC9 hT99 x9) (fun r12 m12 e12 => ?_)
            obtain ⟨M8, rfl⟩ : ∃ M8, M8 = m12 := ⟨_, rfl⟩
            obtain ⟨x8, f8⟩ := e12
            have hR8 := hR9.tf f8
            cases hx : nuS tx N 1 99 (nxS tx N t) with
            | inl e =>
              rw [hx] at x8
              obtain ⟨xr, x8⟩ : _ = 0 ∧ BDc M8 e := x8
              rw [xr]
              refine sI (q := 181) (k := p) dX6_readPersonFlag_180 k9 (by first | rfl | omega | (simp (disch := omega) only [w32_of]; omega)) (by omega) rfl ?_
              refine Ev.goto (q := 189) dX6_readPersonFlag_181 (by decide) ?_
              refine rV dX6_readPersonFlag_189 rfl ?_
              exact ⟨x8.up _ _ (by decide), ((f9.tr f8).pc).up (pc_t (by omega))⟩
            | inr a =>
              rw [hx] at x8
              obtain ⟨xr, x8⟩ : _ = a.1 ∧ OKc M8 a.2 := x8
              obtain ⟨n1, n2, n3, n5, hle2⟩ := nu_T hT99 hx
              rw [xr]
              refine sI (q := 181) (k := p) dX6_readPersonFlag_180 k9 (by first | rfl | omega | (simp (disch := omega) only [w32_of]; omega)) (by omega) rfl ?_
              refine Ev.goto (q := 189) dX6_readPersonFlag_181 (by decide) ?_
              refine rV dX6_readPersonFlag_189 rfl ?_
              exact ⟨⟨x8.up _ _ (by decide), RC_9 hR8 hL hP (by omega) _⟩, ((f9.tr f8).pc).up (pc_t (by omega))⟩
        · skip
          have hk : t.1 = 11 := Classical.byContradiction fun z => by have := (en z).1; omega
          obtain ⟨-, x9, f9⟩ := ey hk
          have hC9 := hC.f f9
          have hT99 := hT9.nx
          have hR9 := hR.tf f9
          have h24 := nx_lt hT9.ok (show ¬ t.1 = 24 by omega)
          rw [pf1_11 hk]
          refine Ev.aload_n (q := 138) dX6_readPersonFlag_137 rfl rfl ?_
          refine gR (q := 141) dX6_readPersonFlag_138 gfX6_12 k2 r2_0 rfl rfl ?_
          refine gR (q := 144) dX6_readPersonFlag_141 gfX6_184 k3 r3_8 rfl rfl ?_
          refine Ev.iload_n (q := 145) dX6_readPersonFlag_144 rfl rfl ?_
          refine Ev.aload_n (q := 146) dX6_readPersonFlag_145 rfl rfl ?_
          refine Ev.iconst (q := 147) dX6_readPersonFlag_146 ki_0 rfl ?_
          refine Ev.bipush (q := 149) dX6_readPersonFlag_147 kb_99 rfl ?_
          refine cV2i (q := 152) (d' := d + 5) dX6_readPersonFlag_149 mlX6_69 moX6_expectNumber mvX6_expectNumber k2 rfl rfl rfl (Nat.le_refl _) rfl rfl rfl (p_X6_expectNumber tx N (nxS tx N t) 0 99 hN hC9 hT99 x9) (fun r13 m13 e13 => ?_)
          obtain ⟨M8, rfl⟩ : ∃ M8, M8 = m13 := ⟨_, rfl⟩
          obtain ⟨x8, f8⟩ := e13
          have hR8 := hR9.tf f8
          cases hx : nuS tx N 0 99 (nxS tx N t) with
          | inl e =>
            rw [hx] at x8
            obtain ⟨xr, x8⟩ : _ = 0 ∧ BDc M8 e := x8
            rw [xr]
            refine sI (q := 153) (k := p) dX6_readPersonFlag_152 k8 (by first | rfl | omega | (simp (disch := omega) only [w32_of]; omega)) (by omega) rfl ?_
            refine Ev.goto (q := 189) dX6_readPersonFlag_153 (by decide) ?_
            refine rV dX6_readPersonFlag_189 rfl ?_
            exact ⟨x8.up _ _ (by decide), ((f9.tr f8).pc).up (pc_t (by omega))⟩
          | inr a =>
            rw [hx] at x8
            obtain ⟨xr, x8⟩ : _ = a.1 ∧ OKc M8 a.2 := x8
            obtain ⟨n1, n2, n3, n5, hle2⟩ := nu_T hT99 hx
            rw [xr]
            refine sI (q := 153) (k := p) dX6_readPersonFlag_152 k8 (by first | rfl | omega | (simp (disch := omega) only [w32_of]; omega)) (by omega) rfl ?_
            refine Ev.goto (q := 189) dX6_readPersonFlag_153 (by decide) ?_
            refine rV dX6_readPersonFlag_189 rfl ?_
            exact ⟨⟨x8.up _ _ (by decide), RC_8 hR8 hL hP (by omega) _⟩, ((f9.tr f8).pc).up (pc_t (by omega))⟩
      · skip
        have hk : t.1 = 10 := Classical.byContradiction fun z => by have := (en z).1; omega
        obtain ⟨-, x9, f9⟩ := ey hk
        have hC9 := hC.f f9
        have hT99 := hT9.nx
        have hR9 := hR.tf f9
        have h24 := nx_lt hT9.ok (show ¬ t.1 = 24 by omega)
        rw [pf1_10 hk]
        refine Ev.aload_n (q := 110) dX6_readPersonFlag_109 rfl rfl ?_
        refine gR (q := 113) dX6_readPersonFlag_110 gfX6_12 k2 r2_0 rfl rfl ?_
        refine gR (q := 116) dX6_readPersonFlag_113 gfX6_181 k3 r3_7 rfl rfl ?_
        refine Ev.iload_n (q := 117) dX6_readPersonFlag_116 rfl rfl ?_
        refine Ev.aload_n (q := 118) dX6_readPersonFlag_117 rfl rfl ?_
        refine Ev.iconst (q := 119) dX6_readPersonFlag_118 ki_0 rfl ?_
        refine Ev.bipush (q := 121) dX6_readPersonFlag_119 kb_99 rfl ?_
        refine cV2i (q := 124) (d' := d + 5) dX6_readPersonFlag_121 mlX6_69 moX6_expectNumber mvX6_expectNumber k2 rfl rfl rfl (Nat.le_refl _) rfl rfl rfl (p_X6_expectNumber tx N (nxS tx N t) 0 99 hN hC9 hT99 x9) (fun r14 m14 e14 => ?_)
        obtain ⟨M8, rfl⟩ : ∃ M8, M8 = m14 := ⟨_, rfl⟩
        obtain ⟨x8, f8⟩ := e14
        have hR8 := hR9.tf f8
        cases hx : nuS tx N 0 99 (nxS tx N t) with
        | inl e =>
          rw [hx] at x8
          obtain ⟨xr, x8⟩ : _ = 0 ∧ BDc M8 e := x8
          rw [xr]
          refine sI (q := 125) (k := p) dX6_readPersonFlag_124 k7 (by first | rfl | omega | (simp (disch := omega) only [w32_of]; omega)) (by omega) rfl ?_
          refine Ev.goto (q := 189) dX6_readPersonFlag_125 (by decide) ?_
          refine rV dX6_readPersonFlag_189 rfl ?_
          exact ⟨x8.up _ _ (by decide), ((f9.tr f8).pc).up (pc_t (by omega))⟩
        | inr a =>
          rw [hx] at x8
          obtain ⟨xr, x8⟩ : _ = a.1 ∧ OKc M8 a.2 := x8
          obtain ⟨n1, n2, n3, n5, hle2⟩ := nu_T hT99 hx
          rw [xr]
          refine sI (q := 125) (k := p) dX6_readPersonFlag_124 k7 (by first | rfl | omega | (simp (disch := omega) only [w32_of]; omega)) (by omega) rfl ?_
          refine Ev.goto (q := 189) dX6_readPersonFlag_125 (by decide) ?_
          refine rV dX6_readPersonFlag_189 rfl ?_
          exact ⟨⟨x8.up _ _ (by decide), RC_7 hR8 hL hP (by omega) _⟩, ((f9.tr f8).pc).up (pc_t (by omega))⟩
    · skip
      have hk : t.1 = 9 := Classical.byContradiction fun z => by have := (en z).1; omega
      obtain ⟨-, x9, f9⟩ := ey hk
      have hC9 := hC.f f9
      have hT99 := hT9.nx
      have hR9 := hR.tf f9
      have h24 := nx_lt hT9.ok (show ¬ t.1 = 24 by omega)
      rw [pf1_9 hk]
      refine Ev.aload_n (q := 55) dX6_readPersonFlag_54 rfl rfl ?_
      refine Ev.iconst (q := 56) dX6_readPersonFlag_55 ki_0 rfl ?_
      refine Ev.aload_n (q := 57) dX6_readPersonFlag_56 rfl rfl ?_
      refine gR (q := 60) dX6_readPersonFlag_57 gfX6_12 k2 r2_0 rfl rfl ?_
      refine gI (q := 63) dX6_readPersonFlag_60 gfX6_129 k3 rfl rfl ?_
      first | rw [hR9.1.2.2.1] | rw [hR9.1.2.2.1.1]
      refine Ev.iconst (q := 64) dX6_readPersonFlag_63 ki_1 rfl ?_
      refine Ev.isub (q := 65) dX6_readPersonFlag_64 rfl ?_
      rw [w32_of (by omega) (by omega)]
      refine cV2i (q := 68) (d' := d + 5) dX6_readPersonFlag_65 mlX6_69 moX6_expectNumber mvX6_expectNumber k2 rfl rfl rfl (Nat.le_refl _) rfl rfl rfl (p_X6_expectNumber tx N (nxS tx N t) 0 (f 2 - 1) hN hC9 hT99 x9) (fun r15 m15 e15 => ?_)
      obtain ⟨M8, rfl⟩ : ∃ M8, M8 = m15 := ⟨_, rfl⟩
      obtain ⟨x8, f8⟩ := e15
      have hR8 := hR9.tf f8
      cases hx : nuS tx N 0 (f 2 - 1) (nxS tx N t) with
      | inl e =>
        rw [hx] at x8
        obtain ⟨xr, x8⟩ : _ = 0 ∧ BDc M8 e := x8
        rw [xr]
        refine istore_n_2 (q := 69) dX6_readPersonFlag_68 rfl rfl rfl ?_
        refine Ev.aload_n (q := 70) dX6_readPersonFlag_69 rfl rfl ?_
        refine gR (q := 73) dX6_readPersonFlag_70 gfX6_21 k2 r2_1 rfl rfl ?_
        refine gR (q := 76) dX6_readPersonFlag_73 gfX6_190 k14 r14_4 rfl rfl ?_
        refine Ev.iload_n (q := 77) dX6_readPersonFlag_76 rfl rfl ?_
        refine Ev.aload_n (q := 78) dX6_readPersonFlag_77 rfl rfl ?_
        refine gR (q := 81) dX6_readPersonFlag_78 gfX6_21 k2 r2_1 rfl rfl ?_
        refine gR (q := 84) dX6_readPersonFlag_81 gfX6_137 k14 r14_0 rfl rfl ?_
        refine Ev.iload_n (q := 85) dX6_readPersonFlag_84 rfl rfl ?_
        refine aI (q := 86) (k := 0) dX6_readPersonFlag_85 k15 (by rfl) (by decide) rfl ?_
        refine sI (q := 87) (k := p) dX6_readPersonFlag_86 k19 (by first | rfl | omega | (simp (disch := omega) only [w32_of]; omega)) (by omega) rfl ?_
        refine Ev.aload_n (q := 88) dX6_readPersonFlag_87 rfl rfl ?_
        refine gR (q := 91) dX6_readPersonFlag_88 gfX6_21 k2 r2_1 rfl rfl ?_
        refine gR (q := 94) dX6_readPersonFlag_91 gfX6_196 k14 r14_6 rfl rfl ?_
        refine Ev.iload_n (q := 95) dX6_readPersonFlag_94 rfl rfl ?_
        refine Ev.iload_n (q := 96) dX6_readPersonFlag_95 rfl rfl ?_
        refine sI (q := 97) (k := p) dX6_readPersonFlag_96 k21 (by first | rfl | omega | (simp (disch := omega) only [w32_of]; omega)) (by omega) rfl ?_
        refine Ev.goto (q := 189) dX6_readPersonFlag_97 (by decide) ?_
        refine rV dX6_readPersonFlag_189 rfl ?_
        exact ⟨(x8.up _ _ (by decide)).up _ _ (by decide), (((f9.tr f8).pc).up (pc_t (by omega))).up (pc_t (by omega))⟩
      | inr a =>
        rw [hx] at x8
        obtain ⟨xr, x8⟩ : _ = a.1 ∧ OKc M8 a.2 := x8
        obtain ⟨n1, n2, n3, n5, hle2⟩ := nu_T hT99 hx
        rw [xr]
        rw [show a.1 = ((a.1.toNat : Nat) : Int) by omega]
        refine istore_n_2 (q := 69) dX6_readPersonFlag_68 rfl rfl rfl ?_
        refine Ev.aload_n (q := 70) dX6_readPersonFlag_69 rfl rfl ?_
        refine gR (q := 73) dX6_readPersonFlag_70 gfX6_21 k2 r2_1 rfl rfl ?_
        refine gR (q := 76) dX6_readPersonFlag_73 gfX6_190 k14 r14_4 rfl rfl ?_
        refine Ev.iload_n (q := 77) dX6_readPersonFlag_76 rfl rfl ?_
        refine Ev.aload_n (q := 78) dX6_readPersonFlag_77 rfl rfl ?_
        refine gR (q := 81) dX6_readPersonFlag_78 gfX6_21 k2 r2_1 rfl rfl ?_
        refine gR (q := 84) dX6_readPersonFlag_81 gfX6_137 k14 r14_0 rfl rfl ?_
        refine Ev.iload_n (q := 85) dX6_readPersonFlag_84 rfl rfl ?_
        refine aI (q := 86) (k := a.1.toNat) dX6_readPersonFlag_85 k15 (by first | rfl | omega | (simp (disch := omega) only [w32_of]; omega)) (by omega) rfl ?_
        rw [(hR8.2.2.1 a.1.toNat (by omega)).2.2.1]
        refine sI (q := 87) (k := p) dX6_readPersonFlag_86 k19 (by first | rfl | omega | (simp (disch := omega) only [w32_of]; omega)) (by omega) rfl ?_
        refine Ev.aload_n (q := 88) dX6_readPersonFlag_87 rfl rfl ?_
        refine gR (q := 91) dX6_readPersonFlag_88 gfX6_21 k2 r2_1 rfl rfl ?_
        refine gR (q := 94) dX6_readPersonFlag_91 gfX6_196 k14 r14_6 rfl rfl ?_
        refine Ev.iload_n (q := 95) dX6_readPersonFlag_94 rfl rfl ?_
        refine Ev.iload_n (q := 96) dX6_readPersonFlag_95 rfl rfl ?_
        refine sI (q := 97) (k := p) dX6_readPersonFlag_96 k21 (by first | rfl | omega | (simp (disch := omega) only [w32_of]; omega)) (by omega) rfl ?_
        refine Ev.goto (q := 189) dX6_readPersonFlag_97 (by decide) ?_
        refine rV dX6_readPersonFlag_189 rfl ?_
        have h9 := RC_21 (RC_19 hR8 hL hP (k := p) (by omega) (f (60 + a.1.toNat))) hL hP (k := p) (by omega) ((a.1.toNat : Nat) : Int)
        rw [show ((a.1.toNat : Nat) : Int) = a.1 by omega] at h9 ⊢
        exact ⟨⟨(x8.up _ _ (by decide)).up _ _ (by decide), h9⟩, ((f9.tr f8).pc.up (pc_t (by omega))).up (pc_t (by omega))⟩
  · skip
    have hk : t.1 = 2 := Classical.byContradiction fun z => by have := (en z).1; omega
    obtain ⟨-, x9, f9⟩ := ey hk
    have hC9 := hC.f f9
    have hT99 := hT9.nx
    have hR9 := hR.tf f9
    have h24 := nx_lt hT9.ok (show ¬ t.1 = 24 by omega)
    rw [pf1_2 hk]
    refine Ev.aload_n (q := 10) dX6_readPersonFlag_9 rfl rfl ?_
    refine gR (q := 13) dX6_readPersonFlag_10 gfX6_21 k2 r2_1 rfl rfl ?_
    refine gR (q := 16) dX6_readPersonFlag_13 gfX6_190 k14 r14_4 rfl rfl ?_
    refine Ev.iload_n (q := 17) dX6_readPersonFlag_16 rfl rfl ?_
    refine Ev.aload_n (q := 18) dX6_readPersonFlag_17 rfl rfl ?_
    refine Ev.iconst (q := 19) dX6_readPersonFlag_18 ki_0 rfl ?_
    refine Ev.aload_n (q := 20) dX6_readPersonFlag_19 rfl rfl ?_
    refine gR (q := 23) dX6_readPersonFlag_20 gfX6_12 k2 r2_0 rfl rfl ?_
    refine gI (q := 26) dX6_readPersonFlag_23 gfX6_73 k3 rfl rfl ?_
    first | rw [hR9.1.1] | rw [hR9.1.1.1]
    refine Ev.iconst (q := 27) dX6_readPersonFlag_26 ki_1 rfl ?_
    refine Ev.isub (q := 28) dX6_readPersonFlag_27 rfl ?_
    rw [w32_of (by omega) (by omega)]
    refine cV2i (q := 31) (d' := d + 5) dX6_readPersonFlag_28 mlX6_69 moX6_expectNumber mvX6_expectNumber k2 rfl rfl rfl (Nat.le_refl _) rfl rfl rfl (p_X6_expectNumber tx N (nxS tx N t) 0 (f 1 - 1) hN hC9 hT99 x9) (fun r16 m16 e16 => ?_)
    obtain ⟨M8, rfl⟩ : ∃ M8, M8 = m16 := ⟨_, rfl⟩
    obtain ⟨x8, f8⟩ := e16
    have hR8 := hR9.tf f8
    cases hx : nuS tx N 0 (f 1 - 1) (nxS tx N t) with
    | inl e =>
      rw [hx] at x8
      obtain ⟨xr, x8⟩ : _ = 0 ∧ BDc M8 e := x8
      rw [xr]
      refine sI (q := 32) (k := p) dX6_readPersonFlag_31 k19 (by first | rfl | omega | (simp (disch := omega) only [w32_of]; omega)) (by omega) rfl ?_
      refine Ev.aload_n (q := 33) dX6_readPersonFlag_32 rfl rfl ?_
      refine gR (q := 36) dX6_readPersonFlag_33 gfX6_21 k2 r2_1 rfl rfl ?_
      refine gR (q := 39) dX6_readPersonFlag_36 gfX6_196 k14 r14_6 rfl rfl ?_
      refine Ev.iload_n (q := 40) dX6_readPersonFlag_39 rfl rfl ?_
      refine Ev.iconst (q := 41) dX6_readPersonFlag_40 ki_m1 rfl ?_
      refine sI (q := 42) (k := p) dX6_readPersonFlag_41 k21 (by first | rfl | omega | (simp (disch := omega) only [w32_of]; omega)) (by omega) rfl ?_
      refine Ev.goto (q := 189) dX6_readPersonFlag_42 (by decide) ?_
      refine rV dX6_readPersonFlag_189 rfl ?_
      exact ⟨(x8.up _ _ (by decide)).up _ _ (by decide), (((f9.tr f8).pc).up (pc_t (by omega))).up (pc_t (by omega))⟩
    | inr a =>
      rw [hx] at x8
      obtain ⟨xr, x8⟩ : _ = a.1 ∧ OKc M8 a.2 := x8
      obtain ⟨n1, n2, n3, n5, hle2⟩ := nu_T hT99 hx
      rw [xr]
      refine sI (q := 32) (k := p) dX6_readPersonFlag_31 k19 (by first | rfl | omega | (simp (disch := omega) only [w32_of]; omega)) (by omega) rfl ?_
      refine Ev.aload_n (q := 33) dX6_readPersonFlag_32 rfl rfl ?_
      refine gR (q := 36) dX6_readPersonFlag_33 gfX6_21 k2 r2_1 rfl rfl ?_
      refine gR (q := 39) dX6_readPersonFlag_36 gfX6_196 k14 r14_6 rfl rfl ?_
      refine Ev.iload_n (q := 40) dX6_readPersonFlag_39 rfl rfl ?_
      refine Ev.iconst (q := 41) dX6_readPersonFlag_40 ki_m1 rfl ?_
      refine sI (q := 42) (k := p) dX6_readPersonFlag_41 k21 (by first | rfl | omega | (simp (disch := omega) only [w32_of]; omega)) (by omega) rfl ?_
      refine Ev.goto (q := 189) dX6_readPersonFlag_42 (by decide) ?_
      refine rV dX6_readPersonFlag_189 rfl ?_
      exact ⟨⟨(x8.up _ _ (by decide)).up _ _ (by decide), RC_21 (RC_19 hR8 hL hP (by omega) _) hL hP (by omega) _⟩, (((f9.tr f8).pc).up (pc_t (by omega))).up (pc_t (by omega))⟩
