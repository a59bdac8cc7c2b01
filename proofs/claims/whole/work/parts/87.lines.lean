/-! ===== the reference: lines are read ===== -/
theorem BDm.up {m : Mem} {e : Int × Nat} (h : BDm m e) (k : Nat) (x : Int) : BDm (up m 215 k x) e := ⟨by rw [up_o _ _ (by decide)]; exact h.1, h.2.1, by rw [up_o _ _ (by decide)]; exact h.2.2⟩
theorem OKm.up {m : Mem} {t : Tok} {f : Row} (h : OKm m t f) (k : Nat) (x : Int) : OKm (up m 215 k x) t (upg f k x) := ⟨by rw [up_o _ _ (by decide)]; exact h.1, h.2.1.keep (by rw [up_o _ _ (by decide)]) (by rw [up_o _ _ (by decide)]) (by rw [up_o _ _ (by decide)]) (by rw [up_o _ _ (by decide)]), by rw [up_row, h.2.2]⟩
/-- how many floors, lifts, people can be -/
def RI (f : Row) : Prop := (2 ≤ f 1 ∧ f 1 ≤ 12) ∧ (0 ≤ f 2 ∧ f 2 ≤ 3) ∧ (0 ≤ f 3 ∧ f 3 ≤ 8)
theorem RI.up {f : Row} (h : RI f) {j : Nat} (hj : 4 ≤ j) (x : Int) : RI (upg f j x) := by unfold RI; rw [upg_ne _ _ (by omega), upg_ne _ _ (by omega), upg_ne _ _ (by omega)]; exact h
/-- a number that was read -/
theorem nu_inv {tx : Nat → Int} {N : Nat} {lo hi : Int} {t : Tok} {a : Int × Tok} (hO : tOK tx N t) (h : nuS tx N lo hi t = .inr a) : t.1 = 23 ∧ (lo ≤ a.1 ∧ a.1 ≤ hi) ∧ a.2 = nxS tx N t ∧ tOK tx N a.2 ∧ t.2.1 + 1 ≤ a.2.2.1 := by
  unfold nuS at h
  by_cases h1 : t.1 = 23
  · rw [if_pos h1] at h
    by_cases h2 : lo ≤ t.2.2.2 ∧ t.2.2.2 ≤ hi
    · rw [if_pos h2] at h
      cases h
      exact ⟨h1, h2, rfl, (tOK_nx hO).1, nx_lt hO (by omega)⟩
    · rw [if_neg h2] at h; cases h
  · rw [if_neg h1] at h; cases h
theorem ea_inv {tx : Nat → Int} {N : Nat} {k : Int} {t t' : Tok} (hO : tOK tx N t) (hk : ¬ k = 24) (h : eaS tx N k t = .inr t') : t.1 = k ∧ t' = nxS tx N t ∧ tOK tx N t' ∧ t.2.1 + 1 ≤ t'.2.1 := by
  unfold eaS at h
  by_cases h1 : t.1 = k
  · rw [if_pos h1] at h
    cases h
    exact ⟨h1, rfl, (tOK_nx hO).1, nx_lt hO (by omega)⟩
  · rw [if_neg h1] at h; cases h
theorem tO_le {tx : Nat → Int} {N : Nat} {t : Tok} (h : tOK tx N t) : t.2.1 ≤ N := by have := h.1; have := h.2.1; omega
def PL (m : Mem) (f : Row) (l : Nat) (x : Er (Nat × Tok)) : Prop := match x with
  | .inl e => BDm m e
  | .inr a => OKm m a.2 (upg f (66 + l) (a.1 : Int))
theorem litR_own {tx : Nat → Int} {N n s : Nat} {own hi : Int} {t : Tok} (h : t.1 = 23 ∧ t.2.2.2 = own) : litR tx N own hi (n + 1) s t = flS t 3 := by conv => lhs; unfold litR; rw [if_pos h]
theorem litR_el {tx : Nat → Int} {N n s : Nat} {own hi : Int} {t : Tok} {e : Int × Nat} (h : ¬ (t.1 = 23 ∧ t.2.2.2 = own)) (h2 : nuS tx N 0 hi t = .inl e) : litR tx N own hi (n + 1) s t = .inl e := by conv => lhs; unfold litR; rw [if_neg h, bE_l h2]
theorem litR_r {tx : Nat → Int} {N n s : Nat} {own hi : Int} {t : Tok} {a : Int × Tok} (h : ¬ (t.1 = 23 ∧ t.2.2.2 = own)) (h2 : nuS tx N 0 hi t = .inr a) : litR tx N own hi (n + 1) s t = if a.2.1 = 23 then litR tx N own hi n (s ||| 2 ^ a.1.toNat) a.2 else .inr (s ||| 2 ^ a.1.toNat, a.2) := by conv => lhs; unfold litR; rw [if_neg h, bE_r h2]
set_option maxRecDepth 4000 in
theorem l_readLit {Γ : Gm} {d : Nat} {m0 : Mem} (tx : Nat → Int) (N l : Nat) (f : Row) (hN : N ≤ 900) (hl : l < 3) (hR : RI f) : ∀ (n : Nat) (t : Tok) (s : Nat) (M : Mem) (sm : Int) (v4 : Vl), OKm M t f → tOK tx N t → TX M tx N → (sm = 0 ∨ (sm = 1 ∧ t.1 = 23)) → N - t.2.1 + 1 ≤ n → s < 2 ^ 12 → Fr sPq m0 M → Em Γ (d + 7) MX12_readLit (fun r m' => PL m' f l (litR tx N (f (60 + l)) (f 1 - 1) n s t) ∧ Fr sPq m0 m') 4 [rv 211, iv l, iv s, iv sm, v4] [] M := by
  obtain ⟨hR1, hR2, hR3⟩ := hR
  intro n
  induction n with
  | zero => intro t s M sm v4 h hO hX hsm hn; omega
  | succ n ih =>
    intro t s M sm v4 h hO hX hsm hn hs hF
    refine Ev.aload_n (q := 5) dX12_readLit_4 rfl rfl ?_
    refine gI (q := 8) dX12_readLit_5 gfX12_102 k211 rfl rfl ?_
    rw [h.1]
    refine Ev.if_ne (tgt := 88) (q := 11) dX12_readLit_8 (by decide) rfl (fun h1 => ?_) (fun h1 => ?_)
    · skip
      omega
    · skip
      refine Ev.iload_n (q := 12) dX12_readLit_11 rfl rfl ?_
      refine Ev.if_eq (tgt := 24) (q := 15) dX12_readLit_12 (by decide) rfl (fun h2 => ?_) (fun h2 => ?_)
      · skip
        refine Ev.aload_n (q := 25) dX12_readLit_24 rfl rfl ?_
        refine Ev.bipush (q := 27) dX12_readLit_25 kb_23 rfl ?_
        refine cV1i (q := 30) (d' := d + 6) dX12_readLit_27 mlX12_108 moX12_is mvX12_is k211 rfl rfl rfl (Nat.le_refl _) rfl rfl rfl (p_X12_is 23) (fun r21 m21 e21 => ?_)
        obtain ⟨rfl, e21⟩ := e21
        obtain rfl := e21.symm
        rw [is_ok h]
        refine Ev.if_eq (tgt := 54) (q := 33) dX12_readLit_30 (by decide) rfl (fun h22 => ?_) (fun h22 => ?_)
        · skip
          have hk23 : ¬ t.1 = 23 := by split at h22 <;> omega
          have hown : ¬ (t.1 = 23 ∧ t.2.2.2 = f (60 + l)) := fun z => hk23 z.1
          refine Ev.aload_n (q := 55) dX12_readLit_54 rfl rfl ?_
          refine Ev.iconst (q := 56) dX12_readLit_55 ki_0 rfl ?_
          refine Ev.aload_n (q := 57) dX12_readLit_56 rfl rfl ?_
          refine gR (q := 60) dX12_readLit_57 gfX12_24 k211 r211_4 rfl rfl ?_
          refine Ev.iconst (q := 61) dX12_readLit_60 ki_1 rfl ?_
          refine aI (q := 62) (k := 1) dX12_readLit_61 k215 (by rfl) (by decide) rfl ?_
          rw [h.2.2]
          refine Ev.iconst (q := 63) dX12_readLit_62 ki_1 rfl ?_
          refine Ev.isub (q := 64) dX12_readLit_63 rfl ?_
          rw [w32_of (by omega) (by omega)]
          refine cV2i (q := 67) (d' := d + 6) dX12_readLit_64 mlX12_146 moX12_takes mvX12_takes k211 rfl rfl rfl (Nat.le_refl _) rfl rfl rfl (p_X12_takes tx N t f 0 (f 1 - 1) hN hX hO h) (fun r51 m51 e51 => ?_)
          obtain ⟨M8, rfl⟩ : ∃ M8, M8 = m51 := ⟨_, rfl⟩
          obtain ⟨x8, f8⟩ := e51
          refine istore_4 (q := 69) dX12_readLit_67 rfl rfl rfl ?_
          cases hx : nuS tx N 0 (f 1 - 1) t with
          | inl e =>
            rw [hx] at x8
            have x8 : BDm M8 e := x8
            refine Ev.aload_n (q := 70) dX12_readLit_69 rfl rfl ?_
            refine gI (q := 73) dX12_readLit_70 gfX12_102 k211 rfl rfl ?_
            rw [x8.1]
            refine Ev.if_ne (tgt := 83) (q := 76) dX12_readLit_73 (by decide) rfl (fun h61 => ?_) (fun h61 => ?_)
            · skip
              refine Ev.iconst (q := 84) dX12_readLit_83 ki_1 rfl ?_
              refine istore_n_3 (q := 85) dX12_readLit_84 rfl rfl rfl ?_
              refine Ev.goto (q := 4) dX12_readLit_85 (by decide) ?_
              refine Ev.aload_n (q := 5) dX12_readLit_4 rfl rfl ?_
              refine gI (q := 8) dX12_readLit_5 gfX12_102 k211 rfl rfl ?_
              rw [x8.1]
              refine Ev.if_ne (tgt := 88) (q := 11) dX12_readLit_8 (by decide) rfl (fun h62 => ?_) (fun h62 => ?_)
              · skip
                refine Ev.aload_n (q := 89) dX12_readLit_88 rfl rfl ?_
                refine gI (q := 92) dX12_readLit_89 gfX12_102 k211 rfl rfl ?_
                rw [x8.1]
                refine Ev.if_ne (tgt := 105) (q := 95) dX12_readLit_92 (by decide) rfl (fun h63 => ?_) (fun h63 => ?_)
                · skip
                  refine rV dX12_readLit_105 rfl ?_
                  rw [litR_el hown hx]
                  exact ⟨x8, hF.tr f8⟩
                · skip
                  exact absurd (by assumption) x8.2.1
              · skip
                exact absurd (by assumption) x8.2.1
            · skip
              exact absurd (by assumption) x8.2.1
          | inr a =>
            rw [hx] at x8
            obtain ⟨xr, x8⟩ : _ = a.1 ∧ OKm M8 a.2 f := x8
            obtain ⟨n1, n2, n3, n4, n5⟩ := nu_inv hO hx
            have hle2 := tO_le n4
            rw [xr]
            refine Ev.aload_n (q := 70) dX12_readLit_69 rfl rfl ?_
            refine gI (q := 73) dX12_readLit_70 gfX12_102 k211 rfl rfl ?_
            rw [x8.1]
            refine Ev.if_ne (tgt := 83) (q := 76) dX12_readLit_73 (by decide) rfl (fun h61 => ?_) (fun h61 => ?_)
            · skip
              omega
            · skip
              refine Ev.iload_n (q := 77) dX12_readLit_76 rfl rfl ?_
              refine Ev.iconst (q := 78) dX12_readLit_77 ki_1 rfl ?_
              refine Ev.iload (q := 80) dX12_readLit_78 rfl rfl ?_
              rw [show a.1 = ((a.1.toNat : Nat) : Int) by omega]
              refine Ev.ishl (q := 81) dX12_readLit_80 rfl ?_
              rw [ishl_1 _ (by omega)]
              refine Ev.ior (q := 82) dX12_readLit_81 rfl ?_
              rw [ior_n (k := 12) hs (two_lt (by omega)) (by decide)]
              refine istore_n_2 (q := 83) dX12_readLit_82 rfl rfl rfl ?_
              refine Ev.iconst (q := 84) dX12_readLit_83 ki_1 rfl ?_
              refine istore_n_3 (q := 85) dX12_readLit_84 rfl rfl rfl ?_
              refine Ev.goto (q := 4) dX12_readLit_85 (by decide) ?_
              by_cases hd : a.2.1 = 23
              · rw [litR_r hown hx, if_pos hd]
                exact ih a.2 _ M8 1 _ x8 n4 (hX.q f8) (Or.inr ⟨rfl, hd⟩) (by omega) (Nat.or_lt_two_pow hs (two_lt (by omega))) (hF.tr f8)
              · skip
                refine Ev.aload_n (q := 5) dX12_readLit_4 rfl rfl ?_
                refine gI (q := 8) dX12_readLit_5 gfX12_102 k211 rfl rfl ?_
                rw [x8.1]
                refine Ev.if_ne (tgt := 88) (q := 11) dX12_readLit_8 (by decide) rfl (fun h81 => ?_) (fun h81 => ?_)
                · skip
                  omega
                · skip
                  refine Ev.iload_n (q := 12) dX12_readLit_11 rfl rfl ?_
                  refine Ev.if_eq (tgt := 24) (q := 15) dX12_readLit_12 (by decide) rfl (fun h82 => ?_) (fun h82 => ?_)
                  · skip
                    omega
                  · skip
                    refine Ev.aload_n (q := 16) dX12_readLit_15 rfl rfl ?_
                    refine Ev.bipush (q := 18) dX12_readLit_16 kb_23 rfl ?_
                    refine cV1i (q := 21) (d' := d + 6) dX12_readLit_18 mlX12_108 moX12_is mvX12_is k211 rfl rfl rfl (Nat.le_refl _) rfl rfl rfl (p_X12_is 23) (fun r83 m83 e83 => ?_)
                    obtain ⟨rfl, e83⟩ := e83
                    obtain rfl := e83.symm
                    rw [is_ok x8]
                    refine Ev.if_eq (tgt := 88) (q := 24) dX12_readLit_21 (by decide) rfl (fun h84 => ?_) (fun h84 => ?_)
                    · skip
                      refine Ev.aload_n (q := 89) dX12_readLit_88 rfl rfl ?_
                      refine gI (q := 92) dX12_readLit_89 gfX12_102 k211 rfl rfl ?_
                      rw [x8.1]
                      refine Ev.if_ne (tgt := 105) (q := 95) dX12_readLit_92 (by decide) rfl (fun h85 => ?_) (fun h85 => ?_)
                      · skip
                        omega
                      · skip
                        refine Ev.aload_n (q := 96) dX12_readLit_95 rfl rfl ?_
                        refine gR (q := 99) dX12_readLit_96 gfX12_24 k211 r211_4 rfl rfl ?_
                        refine Ev.bipush (q := 101) dX12_readLit_99 kb_66 rfl ?_
                        refine Ev.iload_n (q := 102) dX12_readLit_101 rfl rfl ?_
                        refine Ev.iadd (q := 103) dX12_readLit_102 rfl ?_
                        refine Ev.iload_n (q := 104) dX12_readLit_103 rfl rfl ?_
                        refine sI (q := 105) (k := 66 + l) dX12_readLit_104 k215 (by first | rfl | omega | (simp (disch := omega) only [w32_of]; omega)) (by omega) rfl ?_
                        refine rV dX12_readLit_105 rfl ?_
                        rw [litR_r hown hx, if_neg hd]
                        exact ⟨x8.up _ _, (hF.tr f8).up rfl⟩
                    · skip
                      rw [if_neg hd] at h84
                      omega
        · skip
          have hk23 : t.1 = 23 := by split at h22 <;> omega
          have hnum : M 211 10 = t.2.2.2 := h.2.1.2.2.2 hk23
          refine Ev.aload_n (q := 34) dX12_readLit_33 rfl rfl ?_
          refine gI (q := 37) dX12_readLit_34 gfX12_97 k211 rfl rfl ?_
          rw [hnum]
          refine Ev.aload_n (q := 38) dX12_readLit_37 rfl rfl ?_
          refine gR (q := 41) dX12_readLit_38 gfX12_24 k211 r211_4 rfl rfl ?_
          refine Ev.bipush (q := 43) dX12_readLit_41 kb_60 rfl ?_
          refine Ev.iload_n (q := 44) dX12_readLit_43 rfl rfl ?_
          refine Ev.iadd (q := 45) dX12_readLit_44 rfl ?_
          refine aI (q := 46) (k := 60 + l) dX12_readLit_45 k215 (by first | rfl | omega | (simp (disch := omega) only [w32_of]; omega)) (by omega) rfl ?_
          rw [h.2.2]
          refine Ev.icmp_ne (tgt := 54) (q := 49) dX12_readLit_46 (by decide) rfl (fun h23 => ?_) (fun h23 => ?_)
          · skip
            have hown : ¬ (t.1 = 23 ∧ t.2.2.2 = f (60 + l)) := fun z => by have := z.2; omega
            refine Ev.aload_n (q := 55) dX12_readLit_54 rfl rfl ?_
            refine Ev.iconst (q := 56) dX12_readLit_55 ki_0 rfl ?_
            refine Ev.aload_n (q := 57) dX12_readLit_56 rfl rfl ?_
            refine gR (q := 60) dX12_readLit_57 gfX12_24 k211 r211_4 rfl rfl ?_
            refine Ev.iconst (q := 61) dX12_readLit_60 ki_1 rfl ?_
            refine aI (q := 62) (k := 1) dX12_readLit_61 k215 (by rfl) (by decide) rfl ?_
            rw [h.2.2]
            refine Ev.iconst (q := 63) dX12_readLit_62 ki_1 rfl ?_
            refine Ev.isub (q := 64) dX12_readLit_63 rfl ?_
            rw [w32_of (by omega) (by omega)]
            refine cV2i (q := 67) (d' := d + 6) dX12_readLit_64 mlX12_146 moX12_takes mvX12_takes k211 rfl rfl rfl (Nat.le_refl _) rfl rfl rfl (p_X12_takes tx N t f 0 (f 1 - 1) hN hX hO h) (fun r51 m51 e51 => ?_)
            obtain ⟨M8, rfl⟩ : ∃ M8, M8 = m51 := ⟨_, rfl⟩
            obtain ⟨x8, f8⟩ := e51
            refine istore_4 (q := 69) dX12_readLit_67 rfl rfl rfl ?_
            cases hx : nuS tx N 0 (f 1 - 1) t with
            | inl e =>
              rw [hx] at x8
              have x8 : BDm M8 e := x8
              refine Ev.aload_n (q := 70) dX12_readLit_69 rfl rfl ?_
              refine gI (q := 73) dX12_readLit_70 gfX12_102 k211 rfl rfl ?_
              rw [x8.1]
              refine Ev.if_ne (tgt := 83) (q := 76) dX12_readLit_73 (by decide) rfl (fun h61 => ?_) (fun h61 => ?_)
              · skip
                refine Ev.iconst (q := 84) dX12_readLit_83 ki_1 rfl ?_
                refine istore_n_3 (q := 85) dX12_readLit_84 rfl rfl rfl ?_
                refine Ev.goto (q := 4) dX12_readLit_85 (by decide) ?_
                refine Ev.aload_n (q := 5) dX12_readLit_4 rfl rfl ?_
                refine gI (q := 8) dX12_readLit_5 gfX12_102 k211 rfl rfl ?_
                rw [x8.1]
                refine Ev.if_ne (tgt := 88) (q := 11) dX12_readLit_8 (by decide) rfl (fun h62 => ?_) (fun h62 => ?_)
                · skip
                  refine Ev.aload_n (q := 89) dX12_readLit_88 rfl rfl ?_
                  refine gI (q := 92) dX12_readLit_89 gfX12_102 k211 rfl rfl ?_
                  rw [x8.1]
                  refine Ev.if_ne (tgt := 105) (q := 95) dX12_readLit_92 (by decide) rfl (fun h63 => ?_) (fun h63 => ?_)
                  · skip
                    refine rV dX12_readLit_105 rfl ?_
                    rw [litR_el hown hx]
                    exact ⟨x8, hF.tr f8⟩
                  · skip
                    exact absurd (by assumption) x8.2.1
                · skip
                  exact absurd (by assumption) x8.2.1
              · skip
                exact absurd (by assumption) x8.2.1
            | inr a =>
              rw [hx] at x8
              obtain ⟨xr, x8⟩ : _ = a.1 ∧ OKm M8 a.2 f := x8
              obtain ⟨n1, n2, n3, n4, n5⟩ := nu_inv hO hx
              have hle2 := tO_le n4
              rw [xr]
              refine Ev.aload_n (q := 70) dX12_readLit_69 rfl rfl ?_
              refine gI (q := 73) dX12_readLit_70 gfX12_102 k211 rfl rfl ?_
              rw [x8.1]
              refine Ev.if_ne (tgt := 83) (q := 76) dX12_readLit_73 (by decide) rfl (fun h61 => ?_) (fun h61 => ?_)
              · skip
                omega
              · skip
                refine Ev.iload_n (q := 77) dX12_readLit_76 rfl rfl ?_
                refine Ev.iconst (q := 78) dX12_readLit_77 ki_1 rfl ?_
                refine Ev.iload (q := 80) dX12_readLit_78 rfl rfl ?_
                rw [show a.1 = ((a.1.toNat : Nat) : Int) by omega]
                refine Ev.ishl (q := 81) dX12_readLit_80 rfl ?_
                rw [ishl_1 _ (by omega)]
                refine Ev.ior (q := 82) dX12_readLit_81 rfl ?_
                rw [ior_n (k := 12) hs (two_lt (by omega)) (by decide)]
                refine istore_n_2 (q := 83) dX12_readLit_82 rfl rfl rfl ?_
                refine Ev.iconst (q := 84) dX12_readLit_83 ki_1 rfl ?_
                refine istore_n_3 (q := 85) dX12_readLit_84 rfl rfl rfl ?_
                refine Ev.goto (q := 4) dX12_readLit_85 (by decide) ?_
                by_cases hd : a.2.1 = 23
                · rw [litR_r hown hx, if_pos hd]
                  exact ih a.2 _ M8 1 _ x8 n4 (hX.q f8) (Or.inr ⟨rfl, hd⟩) (by omega) (Nat.or_lt_two_pow hs (two_lt (by omega))) (hF.tr f8)
                · skip
                  refine Ev.aload_n (q := 5) dX12_readLit_4 rfl rfl ?_
                  refine gI (q := 8) dX12_readLit_5 gfX12_102 k211 rfl rfl ?_
                  rw [x8.1]
                  refine Ev.if_ne (tgt := 88) (q := 11) dX12_readLit_8 (by decide) rfl (fun h81 => ?_) (fun h81 => ?_)
                  · skip
                    omega
                  · skip
                    refine Ev.iload_n (q := 12) dX12_readLit_11 rfl rfl ?_
                    refine Ev.if_eq (tgt := 24) (q := 15) dX12_readLit_12 (by decide) rfl (fun h82 => ?_) (fun h82 => ?_)
                    · skip
                      omega
                    · skip
                      refine Ev.aload_n (q := 16) dX12_readLit_15 rfl rfl ?_
                      refine Ev.bipush (q := 18) dX12_readLit_16 kb_23 rfl ?_
                      refine cV1i (q := 21) (d' := d + 6) dX12_readLit_18 mlX12_108 moX12_is mvX12_is k211 rfl rfl rfl (Nat.le_refl _) rfl rfl rfl (p_X12_is 23) (fun r83 m83 e83 => ?_)
                      obtain ⟨rfl, e83⟩ := e83
                      obtain rfl := e83.symm
                      rw [is_ok x8]
                      refine Ev.if_eq (tgt := 88) (q := 24) dX12_readLit_21 (by decide) rfl (fun h84 => ?_) (fun h84 => ?_)
                      · skip
                        refine Ev.aload_n (q := 89) dX12_readLit_88 rfl rfl ?_
                        refine gI (q := 92) dX12_readLit_89 gfX12_102 k211 rfl rfl ?_
                        rw [x8.1]
                        refine Ev.if_ne (tgt := 105) (q := 95) dX12_readLit_92 (by decide) rfl (fun h85 => ?_) (fun h85 => ?_)
                        · skip
                          omega
                        · skip
                          refine Ev.aload_n (q := 96) dX12_readLit_95 rfl rfl ?_
                          refine gR (q := 99) dX12_readLit_96 gfX12_24 k211 r211_4 rfl rfl ?_
                          refine Ev.bipush (q := 101) dX12_readLit_99 kb_66 rfl ?_
                          refine Ev.iload_n (q := 102) dX12_readLit_101 rfl rfl ?_
                          refine Ev.iadd (q := 103) dX12_readLit_102 rfl ?_
                          refine Ev.iload_n (q := 104) dX12_readLit_103 rfl rfl ?_
                          refine sI (q := 105) (k := 66 + l) dX12_readLit_104 k215 (by first | rfl | omega | (simp (disch := omega) only [w32_of]; omega)) (by omega) rfl ?_
                          refine rV dX12_readLit_105 rfl ?_
                          rw [litR_r hown hx, if_neg hd]
                          exact ⟨x8.up _ _, (hF.tr f8).up rfl⟩
                      · skip
                        rw [if_neg hd] at h84
                        omega
          · skip
            have hown : t.1 = 23 ∧ t.2.2.2 = f (60 + l) := ⟨hk23, by omega⟩
            refine Ev.aload_n (q := 50) dX12_readLit_49 rfl rfl ?_
            refine Ev.iconst (q := 51) dX12_readLit_50 ki_3 rfl ?_
            refine cV1v (q := 54) (d' := d + 6) dX12_readLit_51 mlX12_114 moX12_fails mvX12_fails k211 rfl rfl rfl (Nat.le_refl _) rfl rfl rfl (p_X12_fails t f 3 (by decide) h) (fun r24 m24 e24 => ?_)
            obtain ⟨M9, rfl⟩ : ∃ M9, M9 = m24 := ⟨_, rfl⟩
            obtain ⟨hb, f9⟩ := e24
            refine Ev.aload_n (q := 55) dX12_readLit_54 rfl rfl ?_
            refine Ev.iconst (q := 56) dX12_readLit_55 ki_0 rfl ?_
            refine Ev.aload_n (q := 57) dX12_readLit_56 rfl rfl ?_
            refine gR (q := 60) dX12_readLit_57 gfX12_24 k211 r211_4 rfl rfl ?_
            refine Ev.iconst (q := 61) dX12_readLit_60 ki_1 rfl ?_
            refine aI (q := 62) (k := 1) dX12_readLit_61 k215 (by rfl) (by decide) rfl ?_
            refine Ev.iconst (q := 63) dX12_readLit_62 ki_1 rfl ?_
            refine Ev.isub (q := 64) dX12_readLit_63 rfl ?_
            refine cV2i (q := 67) (d' := d + 6) dX12_readLit_64 mlX12_146 moX12_takes mvX12_takes k211 rfl rfl rfl (Nat.le_refl _) rfl rfl rfl (p_X12_takes_bd _ _ _ hb) (fun r51 m51 e51 => ?_)
            obtain rfl := (show _ = _ from e51).symm
            refine istore_4 (q := 69) dX12_readLit_67 rfl rfl rfl ?_
            refine Ev.aload_n (q := 70) dX12_readLit_69 rfl rfl ?_
            refine gI (q := 73) dX12_readLit_70 gfX12_102 k211 rfl rfl ?_
            rw [hb.1]
            refine Ev.if_ne (tgt := 83) (q := 76) dX12_readLit_73 (by decide) rfl (fun h52 => ?_) (fun h52 => ?_)
            · skip
              refine Ev.iconst (q := 84) dX12_readLit_83 ki_1 rfl ?_
              refine istore_n_3 (q := 85) dX12_readLit_84 rfl rfl rfl ?_
              refine Ev.goto (q := 4) dX12_readLit_85 (by decide) ?_
              refine Ev.aload_n (q := 5) dX12_readLit_4 rfl rfl ?_
              refine gI (q := 8) dX12_readLit_5 gfX12_102 k211 rfl rfl ?_
              rw [hb.1]
              refine Ev.if_ne (tgt := 88) (q := 11) dX12_readLit_8 (by decide) rfl (fun h53 => ?_) (fun h53 => ?_)
              · skip
                refine Ev.aload_n (q := 89) dX12_readLit_88 rfl rfl ?_
                refine gI (q := 92) dX12_readLit_89 gfX12_102 k211 rfl rfl ?_
                rw [hb.1]
                refine Ev.if_ne (tgt := 105) (q := 95) dX12_readLit_92 (by decide) rfl (fun h54 => ?_) (fun h54 => ?_)
                · skip
                  refine rV dX12_readLit_105 rfl ?_
                  rw [litR_own hown]
                  exact ⟨hb, hF.tr f9⟩
                · skip
                  exact absurd (by assumption) hb.2.1
              · skip
                exact absurd (by assumption) hb.2.1
            · skip
              exact absurd (by assumption) hb.2.1
      · skip
        refine Ev.aload_n (q := 16) dX12_readLit_15 rfl rfl ?_
        refine Ev.bipush (q := 18) dX12_readLit_16 kb_23 rfl ?_
        refine cV1i (q := 21) (d' := d + 6) dX12_readLit_18 mlX12_108 moX12_is mvX12_is k211 rfl rfl rfl (Nat.le_refl _) rfl rfl rfl (p_X12_is 23) (fun r3 m3 e3 => ?_)
        obtain ⟨rfl, e3⟩ := e3
        obtain rfl := e3.symm
        rw [is_ok h]
        refine Ev.if_eq (tgt := 88) (q := 24) dX12_readLit_21 (by decide) rfl (fun h4 => ?_) (fun h4 => ?_)
        · skip
          have hz : t.1 = 23 := by omega
          rw [if_pos hz] at h4
          omega
        · skip
          refine Ev.aload_n (q := 25) dX12_readLit_24 rfl rfl ?_
          refine Ev.bipush (q := 27) dX12_readLit_25 kb_23 rfl ?_
          refine cV1i (q := 30) (d' := d + 6) dX12_readLit_27 mlX12_108 moX12_is mvX12_is k211 rfl rfl rfl (Nat.le_refl _) rfl rfl rfl (p_X12_is 23) (fun r21 m21 e21 => ?_)
          obtain ⟨rfl, e21⟩ := e21
          obtain rfl := e21.symm
          rw [is_ok h]
          refine Ev.if_eq (tgt := 54) (q := 33) dX12_readLit_30 (by decide) rfl (fun h22 => ?_) (fun h22 => ?_)
          · skip
            have hk23 : ¬ t.1 = 23 := by split at h22 <;> omega
            have hown : ¬ (t.1 = 23 ∧ t.2.2.2 = f (60 + l)) := fun z => hk23 z.1
            refine Ev.aload_n (q := 55) dX12_readLit_54 rfl rfl ?_
            refine Ev.iconst (q := 56) dX12_readLit_55 ki_0 rfl ?_
            refine Ev.aload_n (q := 57) dX12_readLit_56 rfl rfl ?_
            refine gR (q := 60) dX12_readLit_57 gfX12_24 k211 r211_4 rfl rfl ?_
            refine Ev.iconst (q := 61) dX12_readLit_60 ki_1 rfl ?_
            refine aI (q := 62) (k := 1) dX12_readLit_61 k215 (by rfl) (by decide) rfl ?_
            rw [h.2.2]
            refine Ev.iconst (q := 63) dX12_readLit_62 ki_1 rfl ?_
            refine Ev.isub (q := 64) dX12_readLit_63 rfl ?_
            rw [w32_of (by omega) (by omega)]
            refine cV2i (q := 67) (d' := d + 6) dX12_readLit_64 mlX12_146 moX12_takes mvX12_takes k211 rfl rfl rfl (Nat.le_refl _) rfl rfl rfl (p_X12_takes tx N t f 0 (f 1 - 1) hN hX hO h) (fun r51 m51 e51 => ?_)
            obtain ⟨M8, rfl⟩ : ∃ M8, M8 = m51 := ⟨_, rfl⟩
            obtain ⟨x8, f8⟩ := e51
            refine istore_4 (q := 69) dX12_readLit_67 rfl rfl rfl ?_
            cases hx : nuS tx N 0 (f 1 - 1) t with
            | inl e =>
              rw [hx] at x8
              have x8 : BDm M8 e := x8
              refine Ev.aload_n (q := 70) dX12_readLit_69 rfl rfl ?_
              refine gI (q := 73) dX12_readLit_70 gfX12_102 k211 rfl rfl ?_
              rw [x8.1]
              refine Ev.if_ne (tgt := 83) (q := 76) dX12_readLit_73 (by decide) rfl (fun h61 => ?_) (fun h61 => ?_)
              · skip
                refine Ev.iconst (q := 84) dX12_readLit_83 ki_1 rfl ?_
                refine istore_n_3 (q := 85) dX12_readLit_84 rfl rfl rfl ?_
                refine Ev.goto (q := 4) dX12_readLit_85 (by decide) ?_
                refine Ev.aload_n (q := 5) dX12_readLit_4 rfl rfl ?_
                refine gI (q := 8) dX12_readLit_5 gfX12_102 k211 rfl rfl ?_
                rw [x8.1]
                refine Ev.if_ne (tgt := 88) (q := 11) dX12_readLit_8 (by decide) rfl (fun h62 => ?_) (fun h62 => ?_)
                · skip
                  refine Ev.aload_n (q := 89) dX12_readLit_88 rfl rfl ?_
                  refine gI (q := 92) dX12_readLit_89 gfX12_102 k211 rfl rfl ?_
                  rw [x8.1]
                  refine Ev.if_ne (tgt := 105) (q := 95) dX12_readLit_92 (by decide) rfl (fun h63 => ?_) (fun h63 => ?_)
                  · skip
                    refine rV dX12_readLit_105 rfl ?_
                    rw [litR_el hown hx]
                    exact ⟨x8, hF.tr f8⟩
                  · skip
                    exact absurd (by assumption) x8.2.1
                · skip
                  exact absurd (by assumption) x8.2.1
              · skip
                exact absurd (by assumption) x8.2.1
            | inr a =>
              rw [hx] at x8
              obtain ⟨xr, x8⟩ : _ = a.1 ∧ OKm M8 a.2 f := x8
              obtain ⟨n1, n2, n3, n4, n5⟩ := nu_inv hO hx
              have hle2 := tO_le n4
              rw [xr]
              refine Ev.aload_n (q := 70) dX12_readLit_69 rfl rfl ?_
              refine gI (q := 73) dX12_readLit_70 gfX12_102 k211 rfl rfl ?_
              rw [x8.1]
              refine Ev.if_ne (tgt := 83) (q := 76) dX12_readLit_73 (by decide) rfl (fun h61 => ?_) (fun h61 => ?_)
              · skip
                omega
              · skip
                refine Ev.iload_n (q := 77) dX12_readLit_76 rfl rfl ?_
                refine Ev.iconst (q := 78) dX12_readLit_77 ki_1 rfl ?_
                refine Ev.iload (q := 80) dX12_readLit_78 rfl rfl ?_
                rw [show a.1 = ((a.1.toNat : Nat) : Int) by omega]
                refine Ev.ishl (q := 81) dX12_readLit_80 rfl ?_
                rw [ishl_1 _ (by omega)]
                refine Ev.ior (q := 82) dX12_readLit_81 rfl ?_
                rw [ior_n (k := 12) hs (two_lt (by omega)) (by decide)]
                refine istore_n_2 (q := 83) dX12_readLit_82 rfl rfl rfl ?_
                refine Ev.iconst (q := 84) dX12_readLit_83 ki_1 rfl ?_
                refine istore_n_3 (q := 85) dX12_readLit_84 rfl rfl rfl ?_
                refine Ev.goto (q := 4) dX12_readLit_85 (by decide) ?_
                by_cases hd : a.2.1 = 23
                · rw [litR_r hown hx, if_pos hd]
                  exact ih a.2 _ M8 1 _ x8 n4 (hX.q f8) (Or.inr ⟨rfl, hd⟩) (by omega) (Nat.or_lt_two_pow hs (two_lt (by omega))) (hF.tr f8)
                · skip
                  refine Ev.aload_n (q := 5) dX12_readLit_4 rfl rfl ?_
                  refine gI (q := 8) dX12_readLit_5 gfX12_102 k211 rfl rfl ?_
                  rw [x8.1]
                  refine Ev.if_ne (tgt := 88) (q := 11) dX12_readLit_8 (by decide) rfl (fun h81 => ?_) (fun h81 => ?_)
                  · skip
                    omega
                  · skip
                    refine Ev.iload_n (q := 12) dX12_readLit_11 rfl rfl ?_
                    refine Ev.if_eq (tgt := 24) (q := 15) dX12_readLit_12 (by decide) rfl (fun h82 => ?_) (fun h82 => ?_)
                    · skip
                      omega
                    · skip
                      refine Ev.aload_n (q := 16) dX12_readLit_15 rfl rfl ?_
                      refine Ev.bipush (q := 18) dX12_readLit_16 kb_23 rfl ?_
                      refine cV1i (q := 21) (d' := d + 6) dX12_readLit_18 mlX12_108 moX12_is mvX12_is k211 rfl rfl rfl (Nat.le_refl _) rfl rfl rfl (p_X12_is 23) (fun r83 m83 e83 => ?_)
                      obtain ⟨rfl, e83⟩ := e83
                      obtain rfl := e83.symm
                      rw [is_ok x8]
                      refine Ev.if_eq (tgt := 88) (q := 24) dX12_readLit_21 (by decide) rfl (fun h84 => ?_) (fun h84 => ?_)
                      · skip
                        refine Ev.aload_n (q := 89) dX12_readLit_88 rfl rfl ?_
                        refine gI (q := 92) dX12_readLit_89 gfX12_102 k211 rfl rfl ?_
                        rw [x8.1]
                        refine Ev.if_ne (tgt := 105) (q := 95) dX12_readLit_92 (by decide) rfl (fun h85 => ?_) (fun h85 => ?_)
                        · skip
                          omega
                        · skip
                          refine Ev.aload_n (q := 96) dX12_readLit_95 rfl rfl ?_
                          refine gR (q := 99) dX12_readLit_96 gfX12_24 k211 r211_4 rfl rfl ?_
                          refine Ev.bipush (q := 101) dX12_readLit_99 kb_66 rfl ?_
                          refine Ev.iload_n (q := 102) dX12_readLit_101 rfl rfl ?_
                          refine Ev.iadd (q := 103) dX12_readLit_102 rfl ?_
                          refine Ev.iload_n (q := 104) dX12_readLit_103 rfl rfl ?_
                          refine sI (q := 105) (k := 66 + l) dX12_readLit_104 k215 (by first | rfl | omega | (simp (disch := omega) only [w32_of]; omega)) (by omega) rfl ?_
                          refine rV dX12_readLit_105 rfl ?_
                          rw [litR_r hown hx, if_neg hd]
                          exact ⟨x8.up _ _, (hF.tr f8).up rfl⟩
                      · skip
                        rw [if_neg hd] at h84
                        omega
          · skip
            have hk23 : t.1 = 23 := by split at h22 <;> omega
            have hnum : M 211 10 = t.2.2.2 := h.2.1.2.2.2 hk23
            refine Ev.aload_n (q := 34) dX12_readLit_33 rfl rfl ?_
            refine gI (q := 37) dX12_readLit_34 gfX12_97 k211 rfl rfl ?_
            rw [hnum]
            refine Ev.aload_n (q := 38) dX12_readLit_37 rfl rfl ?_
            refine gR (q := 41) dX12_readLit_38 gfX12_24 k211 r211_4 rfl rfl ?_
            refine Ev.bipush (q := 43) dX12_readLit_41 kb_60 rfl ?_
            refine Ev.iload_n (q := 44) dX12_readLit_43 rfl rfl ?_
            refine Ev.iadd (q := 45) dX12_readLit_44 rfl ?_
            refine aI (q := 46) (k := 60 + l) dX12_readLit_45 k215 (by first | rfl | omega | (simp (disch := omega) only [w32_of]; omega)) (by omega) rfl ?_
            rw [h.2.2]
            refine Ev.icmp_ne (tgt := 54) (q := 49) dX12_readLit_46 (by decide) rfl (fun h23 => ?_) (fun h23 => ?_)
            · skip
              have hown : ¬ (t.1 = 23 ∧ t.2.2.2 = f (60 + l)) := fun z => by have := z.2; omega
              refine Ev.aload_n (q := 55) dX12_readLit_54 rfl rfl ?_
              refine Ev.iconst (q := 56) dX12_readLit_55 ki_0 rfl ?_
              refine Ev.aload_n (q := 57) dX12_readLit_56 rfl rfl ?_
              refine gR (q := 60) dX12_readLit_57 gfX12_24 k211 r211_4 rfl rfl ?_
              refine Ev.iconst (q := 61) dX12_readLit_60 ki_1 rfl ?_
              refine aI (q := 62) (k := 1) dX12_readLit_61 k215 (by rfl) (by decide) rfl ?_
              rw [h.2.2]
              refine Ev.iconst (q := 63) dX12_readLit_62 ki_1 rfl ?_
              refine Ev.isub (q := 64) dX12_readLit_63 rfl ?_
              rw [w32_of (by omega) (by omega)]
              refine cV2i (q := 67) (d' := d + 6) dX12_readLit_64 mlX12_146 moX12_takes mvX12_takes k211 rfl rfl rfl (Nat.le_refl _) rfl rfl rfl (p_X12_takes tx N t f 0 (f 1 - 1) hN hX hO h) (fun r51 m51 e51 => ?_)
              obtain ⟨M8, rfl⟩ : ∃ M8, M8 = m51 := ⟨_, rfl⟩
              obtain ⟨x8, f8⟩ := e51
              refine istore_4 (q := 69) dX12_readLit_67 rfl rfl rfl ?_
              cases hx : nuS tx N 0 (f 1 - 1) t with
              | inl e =>
                rw [hx] at x8
                have x8 : BDm M8 e := x8
                refine Ev.aload_n (q := 70) dX12_readLit_69 rfl rfl ?_
                refine gI (q := 73) dX12_readLit_70 gfX12_102 k211 rfl rfl ?_
                rw [x8.1]
                refine Ev.if_ne (tgt := 83) (q := 76) dX12_readLit_73 (by decide) rfl (fun h61 => ?_) (fun h61 => ?_)
                · skip
                  refine Ev.iconst (q := 84) dX12_readLit_83 ki_1 rfl ?_
                  refine istore_n_3 (q := 85) dX12_readLit_84 rfl rfl rfl ?_
                  refine Ev.goto (q := 4) dX12_readLit_85 (by decide) ?_
                  refine Ev.aload_n (q := 5) dX12_readLit_4 rfl rfl ?_
                  refine gI (q := 8) dX12_readLit_5 gfX12_102 k211 rfl rfl ?_
                  rw [x8.1]
                  refine Ev.if_ne (tgt := 88) (q := 11) dX12_readLit_8 (by decide) rfl (fun h62 => ?_) (fun h62 => ?_)
                  · skip
                    refine Ev.aload_n (q := 89) dX12_readLit_88 rfl rfl ?_
                    refine gI (q := 92) dX12_readLit_89 gfX12_102 k211 rfl rfl ?_
                    rw [x8.1]
                    refine Ev.if_ne (tgt := 105) (q := 95) dX12_readLit_92 (by decide) rfl (fun h63 => ?_) (fun h63 => ?_)
                    · skip
                      refine rV dX12_readLit_105 rfl ?_
                      rw [litR_el hown hx]
                      exact ⟨x8, hF.tr f8⟩
                    · skip
                      exact absurd (by assumption) x8.2.1
                  · skip
                    exact absurd (by assumption) x8.2.1
                · skip
                  exact absurd (by assumption) x8.2.1
              | inr a =>
                rw [hx] at x8
                obtain ⟨xr, x8⟩ : _ = a.1 ∧ OKm M8 a.2 f := x8
                obtain ⟨n1, n2, n3, n4, n5⟩ := nu_inv hO hx
                have hle2 := tO_le n4
                rw [xr]
                refine Ev.aload_n (q := 70) dX12_readLit_69 rfl rfl ?_
                refine gI (q := 73) dX12_readLit_70 gfX12_102 k211 rfl rfl ?_
                rw [x8.1]
                refine Ev.if_ne (tgt := 83) (q := 76) dX12_readLit_73 (by decide) rfl (fun h61 => ?_) (fun h61 => ?_)
                · skip
                  omega
                · skip
                  refine Ev.iload_n (q := 77) dX12_readLit_76 rfl rfl ?_
                  refine Ev.iconst (q := 78) dX12_readLit_77 ki_1 rfl ?_
                  refine Ev.iload (q := 80) dX12_readLit_78 rfl rfl ?_
                  rw [show a.1 = ((a.1.toNat : Nat) : Int) by omega]
                  refine Ev.ishl (q := 81) dX12_readLit_80 rfl ?_
                  rw [ishl_1 _ (by omega)]
                  refine Ev.ior (q := 82) dX12_readLit_81 rfl ?_
                  rw [ior_n (k := 12) hs (two_lt (by omega)) (by decide)]
                  refine istore_n_2 (q := 83) dX12_readLit_82 rfl rfl rfl ?_
                  refine Ev.iconst (q := 84) dX12_readLit_83 ki_1 rfl ?_
                  refine istore_n_3 (q := 85) dX12_readLit_84 rfl rfl rfl ?_
                  refine Ev.goto (q := 4) dX12_readLit_85 (by decide) ?_
                  by_cases hd : a.2.1 = 23
                  · rw [litR_r hown hx, if_pos hd]
                    exact ih a.2 _ M8 1 _ x8 n4 (hX.q f8) (Or.inr ⟨rfl, hd⟩) (by omega) (Nat.or_lt_two_pow hs (two_lt (by omega))) (hF.tr f8)
                  · skip
                    refine Ev.aload_n (q := 5) dX12_readLit_4 rfl rfl ?_
                    refine gI (q := 8) dX12_readLit_5 gfX12_102 k211 rfl rfl ?_
                    rw [x8.1]
                    refine Ev.if_ne (tgt := 88) (q := 11) dX12_readLit_8 (by decide) rfl (fun h81 => ?_) (fun h81 => ?_)
                    · skip
                      omega
                    · skip
                      refine Ev.iload_n (q := 12) dX12_readLit_11 rfl rfl ?_
                      refine Ev.if_eq (tgt := 24) (q := 15) dX12_readLit_12 (by decide) rfl (fun h82 => ?_) (fun h82 => ?_)
                      · skip
                        omega
                      · skip
                        refine Ev.aload_n (q := 16) dX12_readLit_15 rfl rfl ?_
                        refine Ev.bipush (q := 18) dX12_readLit_16 kb_23 rfl ?_
                        refine cV1i (q := 21) (d' := d + 6) dX12_readLit_18 mlX12_108 moX12_is mvX12_is k211 rfl rfl rfl (Nat.le_refl _) rfl rfl rfl (p_X12_is 23) (fun r83 m83 e83 => ?_)
                        obtain ⟨rfl, e83⟩ := e83
                        obtain rfl := e83.symm
                        rw [is_ok x8]
                        refine Ev.if_eq (tgt := 88) (q := 24) dX12_readLit_21 (by decide) rfl (fun h84 => ?_) (fun h84 => ?_)
                        · skip
                          refine Ev.aload_n (q := 89) dX12_readLit_88 rfl rfl ?_
                          refine gI (q := 92) dX12_readLit_89 gfX12_102 k211 rfl rfl ?_
                          rw [x8.1]
                          refine Ev.if_ne (tgt := 105) (q := 95) dX12_readLit_92 (by decide) rfl (fun h85 => ?_) (fun h85 => ?_)
                          · skip
                            omega
                          · skip
                            refine Ev.aload_n (q := 96) dX12_readLit_95 rfl rfl ?_
                            refine gR (q := 99) dX12_readLit_96 gfX12_24 k211 r211_4 rfl rfl ?_
                            refine Ev.bipush (q := 101) dX12_readLit_99 kb_66 rfl ?_
                            refine Ev.iload_n (q := 102) dX12_readLit_101 rfl rfl ?_
                            refine Ev.iadd (q := 103) dX12_readLit_102 rfl ?_
                            refine Ev.iload_n (q := 104) dX12_readLit_103 rfl rfl ?_
                            refine sI (q := 105) (k := 66 + l) dX12_readLit_104 k215 (by first | rfl | omega | (simp (disch := omega) only [w32_of]; omega)) (by omega) rfl ?_
                            refine rV dX12_readLit_105 rfl ?_
                            rw [litR_r hown hx, if_neg hd]
                            exact ⟨x8.up _ _, (hF.tr f8).up rfl⟩
                        · skip
                          rw [if_neg hd] at h84
                          omega
            · skip
              have hown : t.1 = 23 ∧ t.2.2.2 = f (60 + l) := ⟨hk23, by omega⟩
              refine Ev.aload_n (q := 50) dX12_readLit_49 rfl rfl ?_
              refine Ev.iconst (q := 51) dX12_readLit_50 ki_3 rfl ?_
              refine cV1v (q := 54) (d' := d + 6) dX12_readLit_51 mlX12_114 moX12_fails mvX12_fails k211 rfl rfl rfl (Nat.le_refl _) rfl rfl rfl (p_X12_fails t f 3 (by decide) h) (fun r24 m24 e24 => ?_)
              obtain ⟨M9, rfl⟩ : ∃ M9, M9 = m24 := ⟨_, rfl⟩
              obtain ⟨hb, f9⟩ := e24
              refine Ev.aload_n (q := 55) dX12_readLit_54 rfl rfl ?_
              refine Ev.iconst (q := 56) dX12_readLit_55 ki_0 rfl ?_
              refine Ev.aload_n (q := 57) dX12_readLit_56 rfl rfl ?_
              refine gR (q := 60) dX12_readLit_57 gfX12_24 k211 r211_4 rfl rfl ?_
              refine Ev.iconst (q := 61) dX12_readLit_60 ki_1 rfl ?_
              refine aI (q := 62) (k := 1) dX12_readLit_61 k215 (by rfl) (by decide) rfl ?_
              refine Ev.iconst (q := 63) dX12_readLit_62 ki_1 rfl ?_
              refine Ev.isub (q := 64) dX12_readLit_63 rfl ?_
              refine cV2i (q := 67) (d' := d + 6) dX12_readLit_64 mlX12_146 moX12_takes mvX12_takes k211 rfl rfl rfl (Nat.le_refl _) rfl rfl rfl (p_X12_takes_bd _ _ _ hb) (fun r51 m51 e51 => ?_)
              obtain rfl := (show _ = _ from e51).symm
              refine istore_4 (q := 69) dX12_readLit_67 rfl rfl rfl ?_
              refine Ev.aload_n (q := 70) dX12_readLit_69 rfl rfl ?_
              refine gI (q := 73) dX12_readLit_70 gfX12_102 k211 rfl rfl ?_
              rw [hb.1]
              refine Ev.if_ne (tgt := 83) (q := 76) dX12_readLit_73 (by decide) rfl (fun h52 => ?_) (fun h52 => ?_)
              · skip
                refine Ev.iconst (q := 84) dX12_readLit_83 ki_1 rfl ?_
                refine istore_n_3 (q := 85) dX12_readLit_84 rfl rfl rfl ?_
                refine Ev.goto (q := 4) dX12_readLit_85 (by decide) ?_
                refine Ev.aload_n (q := 5) dX12_readLit_4 rfl rfl ?_
                refine gI (q := 8) dX12_readLit_5 gfX12_102 k211 rfl rfl ?_
                rw [hb.1]
                refine Ev.if_ne (tgt := 88) (q := 11) dX12_readLit_8 (by decide) rfl (fun h53 => ?_) (fun h53 => ?_)
                · skip
                  refine Ev.aload_n (q := 89) dX12_readLit_88 rfl rfl ?_
                  refine gI (q := 92) dX12_readLit_89 gfX12_102 k211 rfl rfl ?_
                  rw [hb.1]
                  refine Ev.if_ne (tgt := 105) (q := 95) dX12_readLit_92 (by decide) rfl (fun h54 => ?_) (fun h54 => ?_)
                  · skip
                    refine rV dX12_readLit_105 rfl ?_
                    rw [litR_own hown]
                    exact ⟨hb, hF.tr f9⟩
                  · skip
                    exact absurd (by assumption) hb.2.1
                · skip
                  exact absurd (by assumption) hb.2.1
              · skip
                exact absurd (by assumption) hb.2.1
set_option maxRecDepth 4000 in
theorem p_X12_readLit {Γ : Gm} {d : Nat} {m : Mem} (tx : Nat → Int) (N : Nat) (t : Tok) (f : Row) (l : Nat) (hN : N ≤ 900) (hX : TX m tx N) (hO : tOK tx N t) (h : OKm m t f) (hR : RI f) (hl : l < 3) : Ci Γ (d + 7) MX12_readLit [rv 211, iv l] m (fun r m' => PL m' f l (litR tx N (f (60 + l)) (f 1 - 1) (N + 1) 0 t) ∧ Fr sPq m m') := by
  refine Ci.of moX12_readLit rfl rfl (fun hA hM => ?_)
  show Em Γ (d + 7) MX12_readLit _ 0 [rv 211, iv l, uv, uv, uv] [] m
  refine Ev.iconst (q := 1) dX12_readLit_0 ki_0 rfl ?_
  refine istore_n_2 (q := 2) dX12_readLit_1 rfl rfl rfl ?_
  refine Ev.iconst (q := 3) dX12_readLit_2 ki_0 rfl ?_
  refine istore_n_3 (q := 4) dX12_readLit_3 rfl rfl rfl ?_
  have hle := tO_le hO
  exact l_readLit (m0 := m) tx N l f hN hl hR (N + 1) t 0 m 0 uv h hO hX (Or.inl rfl) (by omega) (by decide) (Fr.rf _ _)
