/-! ===== the class: a whole law ===== -/
def GoL (Γ : Gm) (D c : Nat) (fo : Int) (Po : Int → Mem → Prop) (due : Int) (k : Nat) (M : Mem) : Prop := Em Γ (D + 7) MX6_readLaw Po 22 [rv 2, rv c, iv fo, iv due, iv k] [] M
def InvL (m0 : Mem) (tx : Nat → Int) (N c : Nat) (t : Tok) (cs s : List Int) (deep k : Nat) (M : Mem) : Prop := OKc M t ∧ tT tx N t ∧ TC M tx N ∧ LI5 M c cs s deep ∧ deep ≤ 6 ∧ s.length ≤ 3 * deep + 2 ∧ cs.length + s.length + 1 ≤ t.2.1 ∧ k + 1 ≤ t.2.1 ∧ (0 < deep → -14 ∈ s) ∧ Fr (sLa c) m0 M
theorem TC.la {m m' : Mem} {tx : Nat → Int} {N c : Nat} (hc : c = 25 ∨ c = 29) (h : TC m tx N) (hf : Fr (sLa c) m m') : TC m' tx N := ⟨by rw [hf 22 0 (sLa_f rfl (sLb_f (by omega)))]; exact h.1, by rw [hf 22 1 (sLa_f rfl (sLb_f (by omega)))]; exact h.2.1, fun i hi => by rw [hf 1 i (sLa_f rfl (sLb_f (by omega)))]; exact h.2.2 i hi⟩
set_option maxRecDepth 4000 in
theorem stepA {Γ : Gm} {D c law : Nat} {fo : Int} {m0 : Mem} {Po : Int → Mem → Prop} {tx : Nat → Int} {N : Nat} {t : Tok} {cs s : List Int} {deep k : Nat} {M : Mem} (hlc : (law = 0 ∧ c = 25 ∧ fo = 1) ∨ (law = 1 ∧ c = 29 ∧ fo = 0)) (hN : N ≤ 900) (hv : InvL m0 tx N c t cs s deep k M) (kont : ∀ (r : Int) (m' : Mem), ((t.1 = 35 → (deep = 6 → r = 1 ∧ BDc m' ((if t.1 = 25 then 1 else 4), t.2.1) ∧ LI5 m' c cs s deep) ∧ (¬ deep = 6 → r = 1 ∧ OKc m' (nxS tx N t) ∧ LI5 m' c cs (-14 :: s) (deep + 1))) ∧ (t.1 = 23 → r = 0 ∧ OKc m' (nxS tx N t) ∧ LI5 m' c (cs ++ [t.2.2.2]) s deep) ∧ (¬ t.1 = 35 → ¬ t.1 = 23 → ¬ wdV law t.1 = -1 → r = 0 ∧ OKc m' (nxS tx N t) ∧ LI5 m' c (cs ++ [codC law (1000 + wdV law t.1)]) s deep) ∧ (¬ t.1 = 35 → ¬ t.1 = 23 → wdV law t.1 = -1 → r = 0 ∧ BDc m' ((if t.1 = 25 then 1 else 2), t.2.1) ∧ LI5 m' c cs s deep) ∧ Fr (sLa c) M m') → GoL Γ D c fo Po r (k + 1) m') : GoL Γ D c fo Po 1 k M := by
  obtain ⟨h, hT9, hC, hI, hd, hs, hcs, hk, hin, hF⟩ := hv
  have hle := tO_le hT9.ok
  unfold GoL
  rcases hlc with ⟨rfl, rfl, rfl⟩ | ⟨rfl, rfl, rfl⟩
  · skip
    refine Ev.iload (q := 24) dX6_readLaw_22 rfl rfl ?_
    refine Ev.sipush (q := 27) dX6_readLaw_24 kh_900 rfl ?_
    refine Ev.icmp_ge (tgt := 85) (q := 30) dX6_readLaw_27 (by decide) rfl (fun h1 => ?_) (fun h1 => ?_)
    · skip
      omega
    · skip
      refine Ev.aload_n (q := 31) dX6_readLaw_30 rfl rfl ?_
      refine gI (q := 34) dX6_readLaw_31 gfX6_25 k2 rfl rfl ?_
      first | rw [h.1] | rw [h.1.1]
      refine Ev.if_ne (tgt := 85) (q := 37) dX6_readLaw_34 (by decide) rfl (fun h2 => ?_) (fun h2 => ?_)
      · skip
        omega
      · skip
        refine Ev.iload_n (q := 38) dX6_readLaw_37 rfl rfl ?_
        refine Ev.if_eq (tgt := 51) (q := 41) dX6_readLaw_38 (by decide) rfl (fun h3 => ?_) (fun h3 => ?_)
        · skip
          omega
        · skip
          refine Ev.aload_n (q := 42) dX6_readLaw_41 rfl rfl ?_
          refine Ev.aload_n (q := 43) dX6_readLaw_42 rfl rfl ?_
          refine Ev.iload_n (q := 44) dX6_readLaw_43 rfl rfl ?_
          refine cV2i (q := 47) (d' := D + 6) dX6_readLaw_44 mlX6_214 moX6_readAtom mvX6_readAtom k2 rfl rfl rfl (Nat.le_refl _) rfl rfl rfl (p_X6_readAtom_0 tx N t deep cs s hN hC hT9 h hI hd (by omega) (by omega)) (fun r4 m4 e4 => ?_)
          obtain ⟨M9, rfl⟩ : ∃ M9, M9 = m4 := ⟨_, rfl⟩
          have e9 := e4
          obtain ⟨r9, hr9⟩ : ∃ r9, r9 = r4 := ⟨_, rfl⟩
          rw [← hr9] at e9 ⊢
          refine istore_n_3 (q := 48) dX6_readLaw_47 rfl rfl rfl ?_
          refine Ev.goto (q := 79) dX6_readLaw_48 (by decide) ?_
          refine iinc_4 (q := 82) dX6_readLaw_79 rfl rfl rfl ?_
          refine Ev.goto (q := 22) dX6_readLaw_82 (by decide) ?_
          rw [w32_of (by omega) (by omega)]
          exact kont r9 M9 e9
  · skip
    refine Ev.iload (q := 24) dX6_readLaw_22 rfl rfl ?_
    refine Ev.sipush (q := 27) dX6_readLaw_24 kh_900 rfl ?_
    refine Ev.icmp_ge (tgt := 85) (q := 30) dX6_readLaw_27 (by decide) rfl (fun h1 => ?_) (fun h1 => ?_)
    · skip
      omega
    · skip
      refine Ev.aload_n (q := 31) dX6_readLaw_30 rfl rfl ?_
      refine gI (q := 34) dX6_readLaw_31 gfX6_25 k2 rfl rfl ?_
      first | rw [h.1] | rw [h.1.1]
      refine Ev.if_ne (tgt := 85) (q := 37) dX6_readLaw_34 (by decide) rfl (fun h2 => ?_) (fun h2 => ?_)
      · skip
        omega
      · skip
        refine Ev.iload_n (q := 38) dX6_readLaw_37 rfl rfl ?_
        refine Ev.if_eq (tgt := 51) (q := 41) dX6_readLaw_38 (by decide) rfl (fun h3 => ?_) (fun h3 => ?_)
        · skip
          omega
        · skip
          refine Ev.aload_n (q := 42) dX6_readLaw_41 rfl rfl ?_
          refine Ev.aload_n (q := 43) dX6_readLaw_42 rfl rfl ?_
          refine Ev.iload_n (q := 44) dX6_readLaw_43 rfl rfl ?_
          refine cV2i (q := 47) (d' := D + 6) dX6_readLaw_44 mlX6_214 moX6_readAtom mvX6_readAtom k2 rfl rfl rfl (Nat.le_refl _) rfl rfl rfl (p_X6_readAtom_1 tx N t deep cs s hN hC hT9 h hI hd (by omega) (by omega)) (fun r4 m4 e4 => ?_)
          obtain ⟨M9, rfl⟩ : ∃ M9, M9 = m4 := ⟨_, rfl⟩
          have e9 := e4
          obtain ⟨r9, hr9⟩ : ∃ r9, r9 = r4 := ⟨_, rfl⟩
          rw [← hr9] at e9 ⊢
          refine istore_n_3 (q := 48) dX6_readLaw_47 rfl rfl rfl ?_
          refine Ev.goto (q := 79) dX6_readLaw_48 (by decide) ?_
          refine iinc_4 (q := 82) dX6_readLaw_79 rfl rfl rfl ?_
          refine Ev.goto (q := 22) dX6_readLaw_82 (by decide) ?_
          rw [w32_of (by omega) (by omega)]
          exact kont r9 M9 e9
set_option maxRecDepth 4000 in
theorem stepJ {Γ : Gm} {D c : Nat} {fo : Int} {m0 : Mem} {Po : Int → Mem → Prop} {tx : Nat → Int} {N : Nat} {t : Tok} {cs s : List Int} {deep k : Nat} {M : Mem} (hc : c ∈ lawC) (hN : N ≤ 900) (hv : InvL m0 tx N c t cs s deep k M) (hne : ¬ (deep = 0 ∧ t.1 = 30)) (kont : ∀ (r : Int) (m' : Mem), ((0 < deep → t.1 = 36 → r = 0 ∧ OKc m' (nxS tx N t) ∧ LI5 m' c (cs ++ (flO s).1) (flO s).2.tail (deep - 1)) ∧ (t.1 = 32 → r = 1 ∧ OKc m' (nxS tx N t) ∧ LI5 m' c (cs ++ (flJ (-11) s).1) (-11 :: (flJ (-11) s).2) deep) ∧ (t.1 = 33 → r = 1 ∧ OKc m' (nxS tx N t) ∧ LI5 m' c (cs ++ (flJ (-12) s).1) (-12 :: (flJ (-12) s).2) deep) ∧ (t.1 = 34 → r = 1 ∧ OKc m' (nxS tx N t) ∧ LI5 m' c (cs ++ (flJ (-13) s).1) (-13 :: (flJ (-13) s).2) deep) ∧ (¬ (0 < deep ∧ t.1 = 36) → ¬ t.1 = 32 → ¬ t.1 = 33 → ¬ t.1 = 34 → r = 1 ∧ BDc m' ((if t.1 = 25 then 1 else 2), t.2.1) ∧ LI5 m' c cs s deep) ∧ Fr (sLa c) M m') → GoL Γ D c fo Po r (k + 1) m') : GoL Γ D c fo Po 0 k M := by
  obtain ⟨h, hT9, hC, hI, hd, hs, hcs, hk, hin, hF⟩ := hv
  have hle := tO_le hT9.ok
  unfold GoL
  obtain ⟨lwK, lwr2, lwr3, lwr5, lwK1, lwK2, lwK3, lwN⟩ := lawK c hc
  refine Ev.iload (q := 24) dX6_readLaw_22 rfl rfl ?_
  refine Ev.sipush (q := 27) dX6_readLaw_24 kh_900 rfl ?_
  refine Ev.icmp_ge (tgt := 85) (q := 30) dX6_readLaw_27 (by decide) rfl (fun h1 => ?_) (fun h1 => ?_)
  · skip
    omega
  · skip
    refine Ev.aload_n (q := 31) dX6_readLaw_30 rfl rfl ?_
    refine gI (q := 34) dX6_readLaw_31 gfX6_25 k2 rfl rfl ?_
    first | rw [h.1] | rw [h.1.1]
    refine Ev.if_ne (tgt := 85) (q := 37) dX6_readLaw_34 (by decide) rfl (fun h2 => ?_) (fun h2 => ?_)
    · skip
      omega
    · skip
      refine Ev.iload_n (q := 38) dX6_readLaw_37 rfl rfl ?_
      refine Ev.if_eq (tgt := 51) (q := 41) dX6_readLaw_38 (by decide) rfl (fun h3 => ?_) (fun h3 => ?_)
      · skip
        refine Ev.aload_n (q := 52) dX6_readLaw_51 rfl rfl ?_
        refine gI (q := 55) dX6_readLaw_52 gfX6_218 lwK rfl rfl ?_
        first | rw [hI.2.1] | rw [hI.2.1.1]
        refine Ev.if_ne (tgt := 73) (q := 58) dX6_readLaw_55 (by decide) rfl (fun h4 => ?_) (fun h4 => ?_)
        · skip
          refine Ev.aload_n (q := 74) dX6_readLaw_73 rfl rfl ?_
          refine Ev.aload_n (q := 75) dX6_readLaw_74 rfl rfl ?_
          refine cV1i (q := 78) (d' := D + 6) dX6_readLaw_75 mlX6_221 moX6_readJoint mvX6_readJoint k2 rfl rfl rfl (Nat.le_refl _) rfl rfl rfl (p_X6_readJoint tx N t c deep cs s hN hC hT9 h hc hI hd (by omega) (by omega) hin) (fun r31 m31 e31 => ?_)
          obtain ⟨M9, rfl⟩ : ∃ M9, M9 = m31 := ⟨_, rfl⟩
          have e9 := e31
          obtain ⟨r9, hr9⟩ : ∃ r9, r9 = r31 := ⟨_, rfl⟩
          rw [← hr9] at e9 ⊢
          refine istore_n_3 (q := 79) dX6_readLaw_78 rfl rfl rfl ?_
          refine iinc_4 (q := 82) dX6_readLaw_79 rfl rfl rfl ?_
          refine Ev.goto (q := 22) dX6_readLaw_82 (by decide) ?_
          rw [w32_of (by omega) (by omega)]
          exact kont r9 M9 e9
        · skip
          refine Ev.aload_n (q := 59) dX6_readLaw_58 rfl rfl ?_
          refine gR (q := 62) dX6_readLaw_59 gfX6_35 k2 r2_4 rfl rfl ?_
          refine Ev.bipush (q := 64) dX6_readLaw_62 kb_59 rfl ?_
          refine cV1i (q := 67) (d' := D + 6) dX6_readLaw_64 mlX6_152 moX8_isSign mvX8_isSign k22 rfl rfl rfl (Nat.le_refl _) rfl rfl rfl (p_X8_isSign tx N t 59 30 hN hC hT9 h.2 (by decide)) (fun r5 m5 e5 => ?_)
          obtain ⟨rfl, e5⟩ := e5
          obtain rfl := e5.symm
          refine Ev.if_eq (tgt := 73) (q := 70) dX6_readLaw_67 (by decide) rfl (fun h6 => ?_) (fun h6 => ?_)
          · skip
            refine Ev.aload_n (q := 74) dX6_readLaw_73 rfl rfl ?_
            refine Ev.aload_n (q := 75) dX6_readLaw_74 rfl rfl ?_
            refine cV1i (q := 78) (d' := D + 6) dX6_readLaw_75 mlX6_221 moX6_readJoint mvX6_readJoint k2 rfl rfl rfl (Nat.le_refl _) rfl rfl rfl (p_X6_readJoint tx N t c deep cs s hN hC hT9 h hc hI hd (by omega) (by omega) hin) (fun r31 m31 e31 => ?_)
            obtain ⟨M9, rfl⟩ : ∃ M9, M9 = m31 := ⟨_, rfl⟩
            have e9 := e31
            obtain ⟨r9, hr9⟩ : ∃ r9, r9 = r31 := ⟨_, rfl⟩
            rw [← hr9] at e9 ⊢
            refine istore_n_3 (q := 79) dX6_readLaw_78 rfl rfl rfl ?_
            refine iinc_4 (q := 82) dX6_readLaw_79 rfl rfl rfl ?_
            refine Ev.goto (q := 22) dX6_readLaw_82 (by decide) ?_
            rw [w32_of (by omega) (by omega)]
            exact kont r9 M9 e9
          · skip
            exact absurd ⟨by omega, by split at h6 <;> omega⟩ hne
      · skip
        omega
set_option maxRecDepth 4000 in
theorem stepE {Γ : Gm} {D c : Nat} {fo : Int} {m0 : Mem} {Po : Int → Mem → Prop} {tx : Nat → Int} {N : Nat} {t : Tok} {cs s : List Int} {deep k : Nat} {M : Mem} (hc : c ∈ lawC) (hN : N ≤ 900) (hv : InvL m0 tx N c t cs s deep k M) (hd0 : deep = 0) (h30 : t.1 = 30) (kont : ∀ (m' : Mem), LwR m' c (cs ++ s) [] → OKc m' t → m' c 0 = 1 → Fr (sLa c) m0 m' → Po 0 m') : GoL Γ D c fo Po 0 k M := by
  obtain ⟨h, hT9, hC, hI, hd, hs, hcs, hk, hin, hF⟩ := hv
  have hle := tO_le hT9.ok
  unfold GoL
  obtain ⟨lwK, lwr2, lwr3, lwr5, lwK1, lwK2, lwK3, lwN⟩ := lawK c hc
  refine Ev.iload (q := 24) dX6_readLaw_22 rfl rfl ?_
  refine Ev.sipush (q := 27) dX6_readLaw_24 kh_900 rfl ?_
  refine Ev.icmp_ge (tgt := 85) (q := 30) dX6_readLaw_27 (by decide) rfl (fun h1 => ?_) (fun h1 => ?_)
  · skip
    omega
  · skip
    refine Ev.aload_n (q := 31) dX6_readLaw_30 rfl rfl ?_
    refine gI (q := 34) dX6_readLaw_31 gfX6_25 k2 rfl rfl ?_
    first | rw [h.1] | rw [h.1.1]
    refine Ev.if_ne (tgt := 85) (q := 37) dX6_readLaw_34 (by decide) rfl (fun h2 => ?_) (fun h2 => ?_)
    · skip
      omega
    · skip
      refine Ev.iload_n (q := 38) dX6_readLaw_37 rfl rfl ?_
      refine Ev.if_eq (tgt := 51) (q := 41) dX6_readLaw_38 (by decide) rfl (fun h3 => ?_) (fun h3 => ?_)
      · skip
        refine Ev.aload_n (q := 52) dX6_readLaw_51 rfl rfl ?_
        refine gI (q := 55) dX6_readLaw_52 gfX6_218 lwK rfl rfl ?_
        first | rw [hI.2.1] | rw [hI.2.1.1]
        refine Ev.if_ne (tgt := 73) (q := 58) dX6_readLaw_55 (by decide) rfl (fun h4 => ?_) (fun h4 => ?_)
        · skip
          omega
        · skip
          refine Ev.aload_n (q := 59) dX6_readLaw_58 rfl rfl ?_
          refine gR (q := 62) dX6_readLaw_59 gfX6_35 k2 r2_4 rfl rfl ?_
          refine Ev.bipush (q := 64) dX6_readLaw_62 kb_59 rfl ?_
          refine cV1i (q := 67) (d' := D + 6) dX6_readLaw_64 mlX6_152 moX8_isSign mvX8_isSign k22 rfl rfl rfl (Nat.le_refl _) rfl rfl rfl (p_X8_isSign tx N t 59 30 hN hC hT9 h.2 (by decide)) (fun r5 m5 e5 => ?_)
          obtain ⟨rfl, e5⟩ := e5
          obtain rfl := e5.symm
          refine Ev.if_eq (tgt := 73) (q := 70) dX6_readLaw_67 (by decide) rfl (fun h6 => ?_) (fun h6 => ?_)
          · skip
            rw [if_pos h30] at h6
            omega
          · skip
            refine Ev.goto (q := 85) dX6_readLaw_70 (by decide) ?_
            refine Ev.aload_n (q := 86) dX6_readLaw_85 rfl rfl ?_
            refine cV0v (q := 89) (d' := D + 6) dX6_readLaw_86 mlX6_225 moX2_finish mvX2_finish lwK rfl rfl rfl (Nat.le_refl _) rfl rfl rfl (p_X2_finish c cs s hc hI.1 (by omega) (by omega)) (fun r7 m7 e7 => ?_)
            obtain ⟨M9, rfl⟩ : ∃ M9, M9 = m7 := ⟨_, rfl⟩
            obtain ⟨y1, y2⟩ := e7
            refine rV dX6_readLaw_89 rfl ?_
            exact kont M9 y1 (h.lb lwN y2.lb) (by rw [y2 c 0 (sEm_f (by omega))]; exact hI.2.2) (hF.tr y2.lb.la2)
      · skip
        omega
set_option maxRecDepth 4000 in
theorem stepB {Γ : Gm} {D c : Nat} {fo : Int} {m0 : Mem} {Po : Int → Mem → Prop} {e : Int × Nat} {cs s : List Int} {deep : Nat} {due : Int} {k : Nat} {M : Mem} (hc : c ∈ lawC) (hb : BDc M e) (hI : LI5 M c cs s deep) (hs : s.length ≤ 22) (hcs : cs.length + s.length ≤ 900) (hF : Fr (sLa c) m0 M) (kont : ∀ (m' : Mem), BDc m' e → Fr (sLa c) m0 m' → Po 0 m') : GoL Γ D c fo Po due k M := by
  unfold GoL
  obtain ⟨lwK, lwr2, lwr3, lwr5, lwK1, lwK2, lwK3, lwN⟩ := lawK c hc
  refine Ev.iload (q := 24) dX6_readLaw_22 rfl rfl ?_
  refine Ev.sipush (q := 27) dX6_readLaw_24 kh_900 rfl ?_
  refine Ev.icmp_ge (tgt := 85) (q := 30) dX6_readLaw_27 (by decide) rfl (fun h1 => ?_) (fun h1 => ?_)
  · skip
    refine Ev.aload_n (q := 86) dX6_readLaw_85 rfl rfl ?_
    refine cV0v (q := 89) (d' := D + 6) dX6_readLaw_86 mlX6_225 moX2_finish mvX2_finish lwK rfl rfl rfl (Nat.le_refl _) rfl rfl rfl (p_X2_finish c cs s hc hI.1 (by omega) (by omega)) (fun r31 m31 e31 => ?_)
    obtain ⟨M9, rfl⟩ : ∃ M9, M9 = m31 := ⟨_, rfl⟩
    obtain ⟨y1, y2⟩ := e31
    refine rV dX6_readLaw_89 rfl ?_
    exact kont M9 (hb.lb lwN y2.lb) (hF.tr y2.lb.la2)
  · skip
    refine Ev.aload_n (q := 31) dX6_readLaw_30 rfl rfl ?_
    refine gI (q := 34) dX6_readLaw_31 gfX6_25 k2 rfl rfl ?_
    first | rw [hb.1] | rw [hb.1.1]
    refine Ev.if_ne (tgt := 85) (q := 37) dX6_readLaw_34 (by decide) rfl (fun h2 => ?_) (fun h2 => ?_)
    · skip
      refine Ev.aload_n (q := 86) dX6_readLaw_85 rfl rfl ?_
      refine cV0v (q := 89) (d' := D + 6) dX6_readLaw_86 mlX6_225 moX2_finish mvX2_finish lwK rfl rfl rfl (Nat.le_refl _) rfl rfl rfl (p_X2_finish c cs s hc hI.1 (by omega) (by omega)) (fun r31 m31 e31 => ?_)
      obtain ⟨M9, rfl⟩ : ∃ M9, M9 = m31 := ⟨_, rfl⟩
      obtain ⟨y1, y2⟩ := e31
      refine rV dX6_readLaw_89 rfl ?_
      exact kont M9 (hb.lb lwN y2.lb) (hF.tr y2.lb.la2)
    · skip
      exact absurd (by assumption) hb.2.1
section SIML
variable (Γ : Gm) (D c law : Nat) (fo : Int) (m0 : Mem) (Po : Int → Mem → Prop) (tx : Nat → Int) (N : Nat)
def BadL (e : Int × Nat) : Prop := ∀ (M : Mem) (due : Int) (k : Nat) (cs s : List Int) (deep : Nat), BDc M e → LI5 M c cs s deep → s.length ≤ 22 → cs.length + s.length ≤ 900 → Fr (sLa c) m0 M → GoL Γ D c fo Po due k M
def S4 (n : Nat) : Prop := ∀ (deep : Nat) (t : Tok) (cs s : List Int) (k : Nat) (M : Mem), InvL m0 tx N c t cs s deep k M → 6 * (N - t.2.1) + 1 ≤ n → (∀ e, psR tx N law n 4 deep t = .inl e → BadL Γ D c fo m0 Po e) → (∀ cs1 t', psR tx N law n 4 deep t = .inr (cs1, t') → ∀ k' M', InvL m0 tx N c t' (cs ++ cs1.map (codC law)) s deep k' M' → GoL Γ D c fo Po 0 k' M') → GoL Γ D c fo Po 1 k M
def S3 (n : Nat) : Prop := ∀ (deep : Nat) (t : Tok) (cs pl s0 : List Int) (k : Nat) (M : Mem), isM pl → noT s0 → s0.length ≤ 3 * deep + 1 → InvL m0 tx N c t cs (pl ++ s0) deep k M → 6 * (N - t.2.1) + 1 ≤ n → (∀ e, psR tx N law n 3 deep t = .inl e → BadL Γ D c fo m0 Po e) → (∀ cs1 t', psR tx N law n 3 deep t = .inr (cs1, t') → ∀ k' M' cs' pl', isM pl' → cs' ++ pl' = (cs ++ pl) ++ cs1.map (codC law) → InvL m0 tx N c t' cs' (pl' ++ s0) deep k' M' → GoL Γ D c fo Po 0 k' M') → GoL Γ D c fo Po 0 k M
def S2 (n : Nat) : Prop := ∀ (deep : Nat) (t : Tok) (cs s0 : List Int) (k : Nat) (M : Mem), noT s0 → s0.length ≤ 3 * deep + 1 → InvL m0 tx N c t cs s0 deep k M → 6 * (N - t.2.1) + 2 ≤ n → (∀ e, psR tx N law n 2 deep t = .inl e → BadL Γ D c fo m0 Po e) → (∀ cs1 t', psR tx N law n 2 deep t = .inr (cs1, t') → ∀ k' M' cs' pl', isM pl' → cs' ++ pl' = cs ++ cs1.map (codC law) → InvL m0 tx N c t' cs' (pl' ++ s0) deep k' M' → GoL Γ D c fo Po 0 k' M') → GoL Γ D c fo Po 1 k M
def S1 (n : Nat) : Prop := ∀ (deep : Nat) (t : Tok) (cs pl pa b : List Int) (k : Nat) (M : Mem), isM pl → isA pa → isB b → b.length ≤ 3 * deep → InvL m0 tx N c t cs (pl ++ (pa ++ b)) deep k M → 6 * (N - t.2.1) + 1 ≤ n → (∀ e, psR tx N law n 1 deep t = .inl e → BadL Γ D c fo m0 Po e) → (∀ cs1 t', psR tx N law n 1 deep t = .inr (cs1, t') → ∀ k' M' cs' pl' pa', isM pl' → isA pa' → cs' ++ (pl' ++ pa') = (cs ++ (pl ++ pa)) ++ cs1.map (codC law) → InvL m0 tx N c t' cs' (pl' ++ (pa' ++ b)) deep k' M' → GoL Γ D c fo Po 0 k' M') → GoL Γ D c fo Po 0 k M
def S0 (n : Nat) : Prop := ∀ (deep : Nat) (t : Tok) (cs b : List Int) (k : Nat) (M : Mem), isB b → b.length ≤ 3 * deep → InvL m0 tx N c t cs b deep k M → 6 * (N - t.2.1) + 3 ≤ n → (∀ e, psR tx N law n 0 deep t = .inl e → BadL Γ D c fo m0 Po e) → (∀ cs1 t', psR tx N law n 0 deep t = .inr (cs1, t') → ∀ k' M' cs' pl' pa', isM pl' → isA pa' → cs' ++ (pl' ++ pa') = cs ++ cs1.map (codC law) → InvL m0 tx N c t' cs' (pl' ++ (pa' ++ b)) deep k' M' → GoL Γ D c fo Po 0 k' M') → GoL Γ D c fo Po 1 k M
end SIML
theorem isB.noT {b : List Int} (h : isB b) : noT b := by
  rcases h with rfl | ⟨r, rfl⟩
  · intro x r h; cases h
  · intro x r h; cases h; decide
theorem isM.len {l : List Int} (h : isM l) : l.length ≤ 1 := by rcases h with rfl | rfl <;> simp
theorem isA.len {l : List Int} (h : isA l) : l.length ≤ 1 := by rcases h with rfl | rfl | rfl <;> simp
section SIMS
variable {Γ : Gm} {D c law : Nat} {fo : Int} {m0 : Mem} {Po : Int → Mem → Prop} {tx : Nat → Int} {N : Nat}
theorem s2_s {n : Nat} (h4 : S4 Γ D c law fo m0 Po tx N n) (h3 : S3 Γ D c law fo m0 Po tx N n) : S2 Γ D c law fo m0 Po tx N (n + 1) := by
  intro deep t cs s0 k M hn0 hl hv hn hbad hok
  have hO := hv.2.1.ok
  have hle := tO_le hO
  refine h4 deep t cs s0 k M hv (by omega) (fun e he => hbad e (by rw [ps2, bE_l he])) (fun a t' ha k1 M1 hv1 => ?_)
  obtain ⟨q1, q2, q3⟩ := ps_len n 4 deep t a t' (by omega) hO (by simp; omega) ha
  have q3' := q3 (by decide)
  have := tO_le q1
  refine h3 deep t' (cs ++ a.map (codC law)) [] s0 k1 M1 (Or.inl rfl) hn0 hl hv1 (by omega) (fun e he => hbad e (by rw [ps2, bE_r ha, bE_l he])) (fun b t2 hb k2 M2 cs2 pl2 hm he hv2 => ?_)
  refine hok (a ++ b) t2 (by rw [ps2, bE_r ha, bE_r hb]) k2 M2 cs2 pl2 hm ?_ hv2
  rw [he, List.map_append]
  simp
theorem s0_s {n : Nat} (h2 : S2 Γ D c law fo m0 Po tx N n) (h1 : S1 Γ D c law fo m0 Po tx N n) : S0 Γ D c law fo m0 Po tx N (n + 1) := by
  intro deep t cs b k M hB hl hv hn hbad hok
  have hO := hv.2.1.ok
  have hle := tO_le hO
  refine h2 deep t cs b k M hB.noT (by omega) hv (by omega) (fun e he => hbad e (by rw [ps0, bE_l he])) (fun a t' ha k1 M1 cs1 pl1 hm1 he1 hv1 => ?_)
  obtain ⟨q1, q2, q3⟩ := ps_len n 2 deep t a t' (by omega) hO (by simp; omega) ha
  have q3' := q3 (by decide)
  have := tO_le q1
  refine h1 deep t' cs1 pl1 [] b k1 M1 hm1 (Or.inl rfl) hB hl hv1 (by omega) (fun e he => hbad e (by rw [ps0, bE_r ha, bE_l he])) (fun b2 t2 hb k2 M2 cs2 pl2 pa2 hm ha2 he hv2 => ?_)
  refine hok (a ++ b2) t2 (by rw [ps0, bE_r ha, bE_r hb]) k2 M2 cs2 pl2 pa2 hm ha2 ?_ hv2
  rw [he, List.append_nil, he1, List.map_append]
  simp
theorem s3_s {n : Nat} (hc : c ∈ lawC) (hN : N ≤ 900) (h4 : S4 Γ D c law fo m0 Po tx N n) (h3 : S3 Γ D c law fo m0 Po tx N n) : S3 Γ D c law fo m0 Po tx N (n + 1) := by
  intro deep t cs pl s0 k M hM hn0 hl hv hn hbad hok
  have hO := hv.2.1.ok
  have hle := tO_le hO
  by_cases h34 : t.1 = 34
  · have hx1 := nx_lt hO (show ¬ t.1 = 24 by omega)
    have hO1 := (tOK_nx hO).1
    have hle1 := tO_le hO1
    refine stepJ hc hN hv (fun z => by omega) (fun r m' hp => ?_)
    obtain ⟨-, -, -, p4, -, pF⟩ := hp
    obtain ⟨rfl, o1, o2⟩ := p4 h34
    rw [flJ_times hM hn0] at o2
    obtain ⟨h, hT9, hC, hI, hd, hs, hcs, hk, hin, hF⟩ := hv
    have hlc : c = 25 ∨ c = 29 := (lawK c hc).2.2.2.2.2.2.2
    rw [List.length_append] at hcs hs
    have hv1 : InvL m0 tx N c (nxS tx N t) (cs ++ pl) (-13 :: s0) deep (k + 1) m' := ⟨o1, hT9.nx, hC.la hlc pF, o2, hd, by rw [List.length_cons]; omega, by rw [List.length_cons, List.length_append]; omega, by omega, fun z => List.mem_cons_of_mem _ (by rcases List.mem_append.mp (hin z) with q | q; (rcases hM with rfl | rfl <;> simp at q); exact q), hF.tr pF⟩
    refine h4 deep (nxS tx N t) (cs ++ pl) (-13 :: s0) (k + 1) m' hv1 (by omega) (fun e he => hbad e (by rw [ps3, if_pos h34, bE_l he])) (fun a t' ha k1 M1 hv2 => ?_)
    obtain ⟨q1, q2, q3⟩ := ps_len n 4 deep _ a t' (by omega) hO1 (by simp; omega) ha
    have q3' := q3 (by decide)
    have := tO_le q1
    refine h3 deep t' (cs ++ pl ++ a.map (codC law)) [-13] s0 k1 M1 (Or.inr rfl) hn0 hl hv2 (by omega) (fun e he => hbad e (by rw [ps3, if_pos h34, bE_r ha, bE_l he])) (fun b t2 hb k2 M2 cs2 pl2 hm he hv3 => ?_)
    refine hok (a ++ (3002 :: b)) t2 (by rw [ps3, if_pos h34, bE_r ha, bE_r hb]) k2 M2 cs2 pl2 hm ?_ hv3
    rw [he, List.map_append, List.map_cons, show codC law 3002 = -13 by unfold codC; rw [if_neg (by decide), if_neg (by decide)]; rfl]
    simp
  · exact hok [] t (by rw [ps3, if_neg h34]) k M cs pl hM (by simp) hv
theorem s1_s {n : Nat} (hc : c ∈ lawC) (hN : N ≤ 900) (h2 : S2 Γ D c law fo m0 Po tx N n) (h1 : S1 Γ D c law fo m0 Po tx N n) : S1 Γ D c law fo m0 Po tx N (n + 1) := by
  intro deep t cs pl pa b k M hM hA hB hl hv hn hbad hok
  have hO := hv.2.1.ok
  have hle := tO_le hO
  by_cases hpm : t.1 = 32 ∨ t.1 = 33
  · have hx1 := nx_lt hO (show ¬ t.1 = 24 by omega)
    have hO1 := (tOK_nx hO).1
    have hle1 := tO_le hO1
    obtain ⟨op, cd, hop, hcd, hcd2⟩ : ∃ op cd : Int, (op = -11 ∨ op = -12) ∧ cd = (if t.1 = 32 then 3000 else 3001) ∧ codC law cd = op ∧ (op = -11 ↔ t.1 = 32) := by
      by_cases q : t.1 = 32
      · exact ⟨-11, 3000, Or.inl rfl, by rw [if_pos q], by unfold codC; rw [if_neg (by decide), if_neg (by decide)]; rfl, by simp [q]⟩
      · exact ⟨-12, 3001, Or.inr rfl, by rw [if_neg q], by unfold codC; rw [if_neg (by decide), if_neg (by decide)]; rfl, by simp [q]⟩
    refine stepJ hc hN hv (fun z => by omega) (fun r m' hp => ?_)
    obtain ⟨-, p2, p3, -, -, pF⟩ := hp
    have hst : r = 1 ∧ OKc m' (nxS tx N t) ∧ LI5 m' c (cs ++ (pl ++ pa)) (op :: b) deep := by
      rcases hpm with q | q
      · obtain ⟨u1, u2, u3⟩ := p2 q
        rw [flJ_add hM hA hB (by decide)] at u3
        rw [hcd2.2.mpr q]
        exact ⟨u1, u2, u3⟩
      · obtain ⟨u1, u2, u3⟩ := p3 q
        rw [flJ_add hM hA hB (by decide)] at u3
        rw [show op = -12 by rcases hop with z | z; (have := hcd2.2.mp z; omega); exact z]
        exact ⟨u1, u2, u3⟩
    obtain ⟨rfl, o1, o2⟩ := hst
    obtain ⟨h, hT9, hC, hI, hd, hs, hcs, hk, hin, hF⟩ := hv
    have hlc : c = 25 ∨ c = 29 := (lawK c hc).2.2.2.2.2.2.2
    have l1 := hM.len
    have l2 := hA.len
    rw [List.length_append, List.length_append] at hcs hs
    have hopT : noT (op :: b) := fun x r e => by cases e; rcases hop with z | z <;> rw [z] <;> decide
    have hv1 : InvL m0 tx N c (nxS tx N t) (cs ++ (pl ++ pa)) (op :: b) deep (k + 1) m' := ⟨o1, hT9.nx, hC.la hlc pF, o2, hd, by rw [List.length_cons]; omega, by rw [List.length_cons, List.length_append, List.length_append]; omega, by omega, fun z => List.mem_cons_of_mem _ (by rcases List.mem_append.mp (hin z) with q | q; (rcases hM with rfl | rfl <;> simp at q); rcases List.mem_append.mp q with q | q; (rcases hA with rfl | rfl | rfl <;> simp at q); exact q), hF.tr pF⟩
    refine h2 deep (nxS tx N t) (cs ++ (pl ++ pa)) (op :: b) (k + 1) m' hopT (by rw [List.length_cons]; omega) hv1 (by omega) (fun e he => hbad e (by rw [ps1, if_pos hpm, bE_l he])) (fun a t' ha k1 M1 cs1 pl1 hm1 he1 hv2 => ?_)
    obtain ⟨q1, q2, q3⟩ := ps_len n 2 deep _ a t' (by omega) hO1 (by simp; omega) ha
    have q3' := q3 (by decide)
    have := tO_le q1
    refine h1 deep t' cs1 pl1 [op] b k1 M1 hm1 (by rcases hop with z | z; (exact Or.inr (Or.inl (by rw [z]))); exact Or.inr (Or.inr (by rw [z]))) hB hl hv2 (by omega) (fun e he => hbad e (by rw [ps1, if_pos hpm, bE_r ha, bE_l he])) (fun b2 t2 hb k2 M2 cs2 pl2 pa2 hm ha2 he hv3 => ?_)
    refine hok (a ++ (cd :: b2)) t2 (by rw [ps1, if_pos hpm, bE_r ha, bE_r hb, hcd]) k2 M2 cs2 pl2 pa2 hm ha2 ?_ hv3
    rw [he, List.map_append, List.map_cons, hcd2.1, ← List.append_assoc cs1 pl1 [op], he1]
    simp
  · exact hok [] t (by rw [ps1, if_neg hpm]) k M cs pl pa hM hA (by simp) hv
theorem s4_s {n : Nat} (hlw : (law = 0 ∧ c = 25 ∧ fo = 1) ∨ (law = 1 ∧ c = 29 ∧ fo = 0)) (hN : N ≤ 900) (h0 : S0 Γ D c law fo m0 Po tx N n) : S4 Γ D c law fo m0 Po tx N (n + 1) := by
  have hc : c ∈ lawC := by rcases hlw with ⟨-, rfl, -⟩ | ⟨-, rfl, -⟩ <;> decide
  have hlc : c = 25 ∨ c = 29 := (lawK c hc).2.2.2.2.2.2.2
  intro deep t cs s k M hv hn hbad hok
  have hO := hv.2.1.ok
  have hle := tO_le hO
  refine stepA hlw hN hv (fun r m' hp => ?_)
  obtain ⟨p1, p2, p3, p4, pF⟩ := hp
  obtain ⟨h, hT9, hC, hI, hd, hs, hcs, hk, hin, hF⟩ := hv
  by_cases h23 : t.1 = 23
  · obtain ⟨rfl, o1, o2⟩ := p2 h23
    have hx1 := nx_lt hO (show ¬ t.1 = 24 by omega)
    have hnum := hO.2.2.2.2 h23
    refine hok [t.2.2.2] (nxS tx N t) (by rw [ps4, if_pos h23]) (k + 1) m' ⟨o1, hT9.nx, hC.la hlc pF, ?_, hd, hs, by rw [List.length_append, List.length_map]; show cs.length + 1 + s.length + 1 ≤ _; omega, by omega, hin, hF.tr pF⟩
    show LI5 m' c (cs ++ [codC law t.2.2.2]) s deep
    rw [show codC law t.2.2.2 = t.2.2.2 by unfold codC; rw [if_pos (by omega)]]
    exact o2
  · by_cases h35 : t.1 = 35
    · have hwd : wdV law t.1 = -1 := by rw [h35]; unfold wdV; repeat (first | rfl | omega | split)
      have hx1 := nx_lt hO (show ¬ t.1 = 24 by omega)
      have hO1 := (tOK_nx hO).1
      have hle1 := tO_le hO1
      by_cases h6 : deep = 6
      · obtain ⟨rfl, o1, o2⟩ := (p1 h35).1 h6
        exact hbad _ (by rw [ps4, if_neg h23, if_neg (fun z => z hwd), if_pos h35, if_pos h6]; rfl) m' 1 (k + 1) cs s deep o1 o2 (by omega) (by omega) (hF.tr pF)
      · obtain ⟨rfl, o1, o2⟩ := (p1 h35).2 h6
        have hv1 : InvL m0 tx N c (nxS tx N t) cs (-14 :: s) (deep + 1) (k + 1) m' := ⟨o1, hT9.nx, hC.la hlc pF, o2, by omega, by rw [List.length_cons]; omega, by rw [List.length_cons]; omega, by omega, fun _ => List.mem_cons_self, hF.tr pF⟩
        refine h0 (deep + 1) (nxS tx N t) cs (-14 :: s) (k + 1) m' (Or.inr ⟨s, rfl⟩) (by rw [List.length_cons]; omega) hv1 (by omega) (fun e he => hbad e (by rw [ps4, if_neg h23, if_neg (fun z => z hwd), if_pos h35, if_neg h6, bE_l he])) (fun a t' ha k1 M1 cs1 pl1 pa1 hm1 ha1 he1 hv2 => ?_)
        have hend := ps_end n 0 (deep + 1) (nxS tx N t) a t' (by omega) (by omega) hO1 (by simp only [if_true]; omega) ha
        have hend2 := hend.2 (by omega)
        obtain ⟨q1, q2, q3⟩ := ps_len n 0 (deep + 1) _ a t' (by omega) hO1 (by simp only [if_true]; omega) ha
        have hle2 := tO_le q1
        refine stepJ hc hN hv2 (fun z => by omega) (fun r m2 hp2 => ?_)
        obtain ⟨j1, -, -, -, j5, jF⟩ := hp2
        obtain ⟨h', hT', hC', hI', hd', hs', hcs', hk', hin', hF'⟩ := hv2
        by_cases h36 : t'.1 = 36
        · obtain ⟨rfl, u1, u2⟩ := j1 (by omega) h36
          rw [flO_all hm1 ha1, he1] at u2
          have hx2 := nx_lt q1 (show ¬ t'.1 = 24 by omega)
          have hlen : cs1.length + (pl1.length + pa1.length) = cs.length + a.length := by have := congrArg List.length he1; simpa using this
          rw [List.length_append, List.length_append, List.length_cons] at hcs'
          exact hok a (nxS tx N t') (by rw [ps4, if_neg h23, if_neg (fun z => z hwd), if_pos h35, if_neg h6, bE_r ha]; unfold eaS; rw [if_pos h36]; rfl) (k1 + 1) m2 ⟨u1, hT'.nx, hC'.la hlc jF, u2, hd, hs, by rw [List.length_append, List.length_map]; omega, by omega, hin, hF'.tr jF⟩
        · obtain ⟨rfl, u1, u2⟩ := j5 (fun z => h36 z.2) hend2.1 hend2.2 hend.1
          rw [List.length_append, List.length_append, List.length_cons] at hcs' hs'
          exact hbad _ (by rw [ps4, if_neg h23, if_neg (fun z => z hwd), if_pos h35, if_neg h6, bE_r ha]; unfold eaS; rw [if_neg h36]; rfl) m2 1 (k1 + 1) cs1 _ (deep + 1) u1 u2 (by rw [List.length_append, List.length_append, List.length_cons]; omega) (by rw [List.length_append, List.length_append, List.length_cons]; omega) (hF'.tr jF)
    · by_cases hwd : wdV law t.1 = -1
      · obtain ⟨rfl, o1, o2⟩ := p4 h35 h23 hwd
        exact hbad _ (by rw [ps4, if_neg h23, if_neg (fun z => z hwd), if_neg h35]; rfl) m' 0 (k + 1) cs s deep o1 o2 (by omega) (by omega) (hF.tr pF)
      · obtain ⟨rfl, o1, o2⟩ := p3 h35 h23 hwd
        have h24 : ¬ t.1 = 24 := fun z => hwd (by rw [z]; unfold wdV; repeat (first | rfl | omega | split))
        have hx1 := nx_lt hO h24
        exact hok [1000 + wdV law t.1] (nxS tx N t) (by rw [ps4, if_neg h23, if_pos hwd]) (k + 1) m' ⟨o1, hT9.nx, hC.la hlc pF, o2, hd, hs, by rw [List.length_append, List.length_map]; show cs.length + 1 + s.length + 1 ≤ _; omega, by omega, hin, hF.tr pF⟩
theorem sim_all (hlw : (law = 0 ∧ c = 25 ∧ fo = 1) ∨ (law = 1 ∧ c = 29 ∧ fo = 0)) (hN : N ≤ 900) : ∀ n, S4 Γ D c law fo m0 Po tx N n ∧ S3 Γ D c law fo m0 Po tx N n ∧ S2 Γ D c law fo m0 Po tx N n ∧ S1 Γ D c law fo m0 Po tx N n ∧ S0 Γ D c law fo m0 Po tx N n := by
  have hc : c ∈ lawC := by rcases hlw with ⟨-, rfl, -⟩ | ⟨-, rfl, -⟩ <;> decide
  intro n
  induction n with
  | zero => exact ⟨fun _ _ _ _ _ _ _ h => absurd h (by omega), fun _ _ _ _ _ _ _ _ _ _ _ h => absurd h (by omega), fun _ _ _ _ _ _ _ _ _ h => absurd h (by omega), fun _ _ _ _ _ _ _ _ _ _ _ _ _ h => absurd h (by omega), fun _ _ _ _ _ _ _ _ _ h => absurd h (by omega)⟩
  | succ n ih =>
    obtain ⟨h4, h3, h2, h1, h0⟩ := ih
    exact ⟨s4_s hlw hN h0, s3_s hc hN h4 h3, s2_s h4 h3, s1_s hc hN h2 h1, s0_s h2 h1⟩
end SIMS
