/-! ===== the class: evenings ===== -/
theorem eveN_yes {L P F q c : Nat} {x : Int} {g : Row} (h : whyN g (numD (drnV L P F x).2.1 (drnV L P F x).2.2.1 (drnV L P F x).2.2.2 : Nat) = 0) : eveN L P F (q + 1) x c g = eveN L P F q (drnV L P F x).1 (c + 1) (doN g (numD (drnV L P F x).2.1 (drnV L P F x).2.2.1 (drnV L P F x).2.2.2 : Nat)) := by conv => lhs; unfold eveN; rw [if_pos h]
theorem eveN_no {L P F q c : Nat} {x : Int} {g : Row} (h : ¬ whyN g (numD (drnV L P F x).2.1 (drnV L P F x).2.2.1 (drnV L P F x).2.2.2 : Nat) = 0) : eveN L P F (q + 1) x c g = eveN L P F q (drnV L P F x).1 c g := by conv => lhs; unfold eveN; rw [if_neg h]
set_option maxRecDepth 4000 in
theorem l_drawAll {Γ : Gm} {d : Nat} {m0 : Mem} (n L P F N : Nat) (sd : Int) (T : Nat × Row) (hn : n ∈ nowC) (hn2 : n = 44 ∨ n = 52) (hN : N ≤ 40) (hL : 0 < L) (hP : 0 < P) : ∀ (q k c : Nat) (M : Mem) (gk : Row) (x : Int), k + q = N → HI gk → HouR gk M 33 → NowR gk M n → M 66 2 = x → (gk 2 = (L : Int) ∧ gk 3 = (P : Int) ∧ gk 1 = (F : Int)) → Fr (sDf n) m0 M → c ≤ k → T = eveN L P F q x c gk → Em Γ (d + 5) MX0_drawAll (fun r m' => r = (T.1 : Int) ∧ NowR T.2 m' n ∧ Fr (sDf n) m0 m') 11 [rv 66, rv n, iv sd, iv N, iv c, iv k] [] M := by
  obtain ⟨nwK, ⟨nwr0, nwr1, nwr2, nwr3, nwr4, nwr5, nwr6⟩, nwK0, nwK1, nwK2, nwK3, nwK4, nwK5, nwK6, nwN⟩ := nowK n hn
  intro q
  induction q with
  | zero =>
    intro k c M gk x hk hI hH hR hx hg hF hcc hT
    have hT : T = (c, gk) := hT
    refine Ev.iload (q := 13) dX0_drawAll_11 rfl rfl ?_
    refine Ev.iload_n (q := 14) dX0_drawAll_13 rfl rfl ?_
    refine Ev.icmp_ge (tgt := 34) (q := 17) dX0_drawAll_14 (by decide) rfl (fun h1 => ?_) (fun h1 => ?_)
    · skip
      refine Ev.iload (q := 36) dX0_drawAll_34 rfl rfl ?_
      refine rI dX0_drawAll_36 rfl ?_
      rw [hT]
      exact ⟨rfl, hR, hF⟩
    · skip
      omega
  | succ q ih =>
    intro k c M gk x hk hI hH hR hx hg hF hcc hT
    refine Ev.iload (q := 13) dX0_drawAll_11 rfl rfl ?_
    refine Ev.iload_n (q := 14) dX0_drawAll_13 rfl rfl ?_
    refine Ev.icmp_ge (tgt := 34) (q := 17) dX0_drawAll_14 (by decide) rfl (fun h1 => ?_) (fun h1 => ?_)
    · skip
      omega
    · skip
      refine Ev.aload_n (q := 18) dX0_drawAll_17 rfl rfl ?_
      refine Ev.aload_n (q := 19) dX0_drawAll_18 rfl rfl ?_
      refine cV1i (q := 22) (d' := d + 4) dX0_drawAll_19 mlX0_142 moX0_drawOne mvX0_drawOne k66 rfl rfl rfl (Nat.le_refl _) rfl rfl rfl (p_X0_drawOne gk n hn hI hH hR (by omega) (by omega)) (fun r2 m2 e2 => ?_)
      obtain ⟨M9, rfl⟩ : ∃ M9, M9 = m2 := ⟨_, rfl⟩
      obtain ⟨x1, x2, x3, x4⟩ := e2
      rw [hx] at x1 x2 x3
      have hdr : drV gk x = numD (drnV L P F x).2.1 (drnV L P F x).2.2.1 (drnV L P F x).2.2.2 := by unfold drV; rw [hg.1, hg.2.1, hg.2.2, Int.toNat_natCast, Int.toNat_natCast, Int.toNat_natCast]
      rw [hdr] at x1 x2
      rw [hg.1, hg.2.1, hg.2.2, Int.toNat_natCast, Int.toNat_natCast, Int.toNat_natCast] at x3
      subst x1
      refine Ev.if_ne (tgt := 28) (q := 25) dX0_drawAll_22 (by decide) rfl (fun h3 => ?_) (fun h3 => ?_)
      · skip
        refine iinc_5 (q := 31) dX0_drawAll_28 rfl rfl rfl ?_
        refine Ev.goto (q := 11) dX0_drawAll_31 (by decide) ?_
        have hwn := ‹¬ whyN gk _ = 0›
        rw [if_neg hwn] at x2
        rw [eveN_no hwn] at hT
        rw [w32_of (by omega) (by omega)]
        exact ih (k + 1) c M9 gk _ (by omega) hI (hH.keep (fun a h1 h2 => x4.row a (fun _ => sDf_f (by omega) (by omega) (by omega)))) x2 x3 hg (hF.tr x4) (by omega) hT
      · skip
        refine iinc_4 (q := 28) dX0_drawAll_25 rfl rfl rfl ?_
        refine iinc_5 (q := 31) dX0_drawAll_28 rfl rfl rfl ?_
        refine Ev.goto (q := 11) dX0_drawAll_31 (by decide) ?_
        have hwn := ‹whyN gk _ = 0›
        rw [if_pos hwn] at x2
        rw [eveN_yes hwn] at hT
        obtain ⟨hI9, hK9⟩ := HI_N hI hwn
        rw [w32_of (by omega) (by omega), w32_of (by omega) (by omega)]
        refine ih (k + 1) (c + 1) M9 _ _ (by omega) hI9 ?_ x2 x3 ⟨by rw [hK9 2 (by omega)]; exact hg.1, by rw [hK9 3 (by omega)]; exact hg.2.1, by rw [hK9 1 (by omega)]; exact hg.2.2⟩ (hF.tr x4) (by omega) hT
        exact (hH.keep (fun a h1 h2 => x4.row a (fun _ => sDf_f (by omega) (by omega) (by omega)))).Kp hI.2.1.2 hI.2.2.1.2 (fun j hj => hK9 j (by omega)) (fun j hj => hK9 j (by omega))
set_option maxRecDepth 4000 in
theorem p_X0_drawAll {Γ : Gm} {d : Nat} {m : Mem} (g : Row) (n N : Nat) (sd : Int) (hn : n ∈ nowC) (hI : HI g) (hH : HouR g m 33) (hR : NowR g m n) (hn2 : n = 44 ∨ n = 52) (hN : N ≤ 40) (hL0 : 0 < g 2) (hP0 : 0 < g 3) : Ci Γ (d + 5) MX0_drawAll [rv 66, rv n, iv sd, iv N] m (fun r m' => r = ((eveV g sd N).1 : Int) ∧ NowR (eveV g sd N).2 m' n ∧ Fr (sDf n) m m') := by
  refine Ci.of moX0_drawAll rfl rfl (fun hA hM => ?_)
  show Em Γ (d + 5) MX0_drawAll _ 0 [rv 66, rv n, iv sd, iv N, uv, uv] [] m
  obtain ⟨nwK, ⟨nwr0, nwr1, nwr2, nwr3, nwr4, nwr5, nwr6⟩, nwK0, nwK1, nwK2, nwK3, nwK4, nwK5, nwK6, nwN⟩ := nowK n hn
  have hF12 := hI.1
  refine Ev.aload_n (q := 1) dX0_drawAll_0 rfl rfl ?_
  refine Ev.iload_n (q := 2) dX0_drawAll_1 rfl rfl ?_
  refine pI (q := 5) dX0_drawAll_2 gfX0_9 k66 rfl rfl ?_
  refine Ev.iconst (q := 6) dX0_drawAll_5 ki_0 rfl ?_
  refine istore_4 (q := 8) dX0_drawAll_6 rfl rfl rfl ?_
  refine Ev.iconst (q := 9) dX0_drawAll_8 ki_0 rfl ?_
  refine istore_5 (q := 11) dX0_drawAll_9 rfl rfl rfl ?_
  have hF0 : Fr (sDf n) m (up m 66 2 sd) := (Fr.rf _ _).up sDf_66
  refine (l_drawAll (m0 := up m 66 2 sd) n (g 2).toNat (g 3).toNat (g 1).toNat N sd _ hn hn2 hN (by omega) (by omega) N 0 0 _ g sd (by omega) hI (hH.keep (fun a h1 h2 => up_na _ _ (by omega))) (hR.keep (fun a h1 h2 => up_na _ _ (by omega))) (up_eq _ _ _ _) ⟨by omega, by omega, by omega⟩ (Fr.rf _ _) (by omega) rfl).imp ?_
  intro v m' h9
  exact ⟨h9.1, h9.2.1, hF0.tr h9.2.2⟩
