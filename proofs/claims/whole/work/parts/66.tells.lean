/-! ===== the class: deeds told, drawn ===== -/
theorem telN_no {num : Nat → Int} {q k : Nat} {g : Row} (h : ¬ whyN g (num k) = 0) : telN num (q + 1) k g = (whyN g (num k), k, g) := by conv => lhs; unfold telN; rw [if_neg h]
theorem telN_yes {num : Nat → Int} {q k : Nat} {g : Row} (h : whyN g (num k) = 0) : telN num (q + 1) k g = telN num q (k + 1) (doN g (num k)) := by conv => lhs; unfold telN; rw [if_pos h]
set_option maxRecDepth 4000 in
theorem l_doAll {Γ : Gm} {d : Nat} {m0 : Mem} (n c N : Nat) (num : Nat → Int) (T : Int × Nat × Row) (hn : n ∈ nowC) (hc : c ∈ traC) (hn2 : n = 44 ∨ n = 52) (hN : N ≤ 40) (h0 : m0 c 0 = N) (hnum : ∀ i, i < N → m0 (c + 1) i = num i) : ∀ (q k : Nat) (M : Mem) (gk : Row), k + q = N → HI gk → HouR gk M 33 → NowR gk M n → M 66 3 = 0 → Fr (sDf n) m0 M → T = telN num q k gk → Em Γ (d + 5) MX0_doAll (fun r m' => r = (T.2.1 : Int) ∧ NowR T.2.2 m' n ∧ m' 66 3 = T.1 ∧ Fr (sDf n) m0 m') 10 [rv 66, rv n, rv c, iv k, iv k] [] M := by
  obtain ⟨nwK, ⟨nwr0, nwr1, nwr2, nwr3, nwr4, nwr5, nwr6⟩, nwK0, nwK1, nwK2, nwK3, nwK4, nwK5, nwK6, nwN⟩ := nowK n hn
  obtain ⟨taK, tar, taK2, taN⟩ := traK c hc
  intro q
  induction q with
  | zero =>
    intro k M gk hk hI hH hR hw hF hT
    have cs : M c 0 = N := by rw [hF c 0 (sDf_f (by omega) (by omega) (by omega))]; exact h0
    have w66 : M 66 3 = 0 := hw
    have hT : T = (0, k, gk) := hT
    refine Ev.iload (q := 12) dX0_doAll_10 rfl rfl ?_
    refine Ev.aload_n (q := 13) dX0_doAll_12 rfl rfl ?_
    refine gI (q := 16) dX0_doAll_13 gfX0_105 taK rfl rfl ?_
    rw [cs]
    refine Ev.icmp_ge (tgt := 57) (q := 19) dX0_doAll_16 (by decide) rfl (fun h1 => ?_) (fun h1 => ?_)
    · skip
      refine Ev.iload_n (q := 58) dX0_doAll_57 rfl rfl ?_
      refine rI dX0_doAll_58 rfl ?_
      rw [hT]
      exact ⟨rfl, hR, w66, hF⟩
    · skip
      omega
  | succ q ih =>
    intro k M gk hk hI hH hR hw hF hT
    have cs : M c 0 = N := by rw [hF c 0 (sDf_f (by omega) (by omega) (by omega))]; exact h0
    have w66 : M 66 3 = 0 := hw
    refine Ev.iload (q := 12) dX0_doAll_10 rfl rfl ?_
    refine Ev.aload_n (q := 13) dX0_doAll_12 rfl rfl ?_
    refine gI (q := 16) dX0_doAll_13 gfX0_105 taK rfl rfl ?_
    rw [cs]
    refine Ev.icmp_ge (tgt := 57) (q := 19) dX0_doAll_16 (by decide) rfl (fun h1 => ?_) (fun h1 => ?_)
    · skip
      omega
    · skip
      refine Ev.aload_n (q := 20) dX0_doAll_19 rfl rfl ?_
      refine gI (q := 23) dX0_doAll_20 gfX0_15 k66 rfl rfl ?_
      rw [w66]
      refine Ev.if_ne (tgt := 57) (q := 26) dX0_doAll_23 (by decide) rfl (fun h2 => ?_) (fun h2 => ?_)
      · skip
        omega
      · skip
        refine Ev.aload_n (q := 27) dX0_doAll_26 rfl rfl ?_
        refine Ev.aload_n (q := 28) dX0_doAll_27 rfl rfl ?_
        refine Ev.aload_n (q := 29) dX0_doAll_28 rfl rfl ?_
        refine Ev.aload_n (q := 30) dX0_doAll_29 rfl rfl ?_
        refine Ev.iload (q := 32) dX0_doAll_30 rfl rfl ?_
        refine cV1j (q := 35) (d' := d + 4) dX0_doAll_32 mlX0_110 moX9_get mvX9_get taK rfl rfl rfl (Nat.le_refl _) rfl rfl rfl (p_X9_get c k hc (by omega) (by omega)) (fun r3 m3 e3 => ?_)
        obtain ⟨rfl, e3⟩ := e3
        obtain rfl := e3.symm
        rw [show M (c + 1) k = num k by rw [hF (c + 1) k (sDf_f (by omega) (by omega) (by omega))]; exact hnum k (by omega)]
        refine cV2i (q := 38) (d' := d + 4) dX0_doAll_35 mlX0_114 moX0_doNumber mvX0_doNumber k66 rfl rfl rfl (Nat.le_refl _) rfl rfl rfl (p_X0_doNumber gk n _ hn hI hH hR) (fun r4 m4 e4 => ?_)
        obtain ⟨M9, rfl⟩ : ∃ M9, M9 = m4 := ⟨_, rfl⟩
        obtain ⟨rfl, x2, x3⟩ := e4
        refine pI (q := 41) dX0_doAll_38 gfX0_15 k66 rfl rfl ?_
        refine Ev.aload_n (q := 42) dX0_doAll_41 rfl rfl ?_
        refine gI (q := 45) dX0_doAll_42 gfX0_15 k66 rfl rfl ?_
        rw [up_eq]
        refine Ev.if_ne (tgt := 51) (q := 48) dX0_doAll_45 (by decide) rfl (fun h5 => ?_) (fun h5 => ?_)
        · skip
          refine iinc_4 (q := 54) dX0_doAll_51 rfl rfl rfl ?_
          refine Ev.goto (q := 10) dX0_doAll_54 (by decide) ?_
          have hwn : ¬ whyN gk (num k) = 0 := by assumption
          rw [if_neg hwn] at x2
          rw [telN_no hwn] at hT
          rw [w32_of (by omega) (by omega)]
          have hF9 : Fr (sDf n) m0 (up M9 66 3 (whyN gk (num k))) := (hF.tr x3.toDf).up sDf_66
          have hR9 : NowR gk (up M9 66 3 (whyN gk (num k))) n := x2.keep (fun a h1 h2 => up_na _ _ (by omega))
          have hw9 : (up M9 66 3 (whyN gk (num k))) 66 3 = whyN gk (num k) := up_eq _ _ _ _
          obtain ⟨M8, hM8⟩ : ∃ M8, M8 = up M9 66 3 (whyN gk (num k)) := ⟨_, rfl⟩
          rw [← hM8] at hF9 hR9 hw9 ⊢
          have hwne : ¬ M8 66 3 = 0 := by rw [hw9]; exact hwn
          refine Ev.iload (q := 12) dX0_doAll_10 rfl rfl ?_
          refine Ev.aload_n (q := 13) dX0_doAll_12 rfl rfl ?_
          refine gI (q := 16) dX0_doAll_13 gfX0_105 taK rfl rfl ?_
          refine Ev.icmp_ge (tgt := 57) (q := 19) dX0_doAll_16 (by decide) rfl (fun h21 => ?_) (fun h21 => ?_)
          · skip
            refine Ev.iload_n (q := 58) dX0_doAll_57 rfl rfl ?_
            refine rI dX0_doAll_58 rfl ?_
            exact ⟨by rw [hT], by rw [hT]; exact hR9, by rw [hT]; exact hw9, hF9⟩
          · skip
            refine Ev.aload_n (q := 20) dX0_doAll_19 rfl rfl ?_
            refine gI (q := 23) dX0_doAll_20 gfX0_15 k66 rfl rfl ?_
            refine Ev.if_ne (tgt := 57) (q := 26) dX0_doAll_23 (by decide) rfl (fun h22 => ?_) (fun h22 => ?_)
            · skip
              refine Ev.iload_n (q := 58) dX0_doAll_57 rfl rfl ?_
              refine rI dX0_doAll_58 rfl ?_
              exact ⟨by rw [hT], by rw [hT]; exact hR9, by rw [hT]; exact hw9, hF9⟩
            · skip
              omega
        · skip
          refine iinc_3 (q := 51) dX0_doAll_48 rfl rfl rfl ?_
          refine iinc_4 (q := 54) dX0_doAll_51 rfl rfl rfl ?_
          refine Ev.goto (q := 10) dX0_doAll_54 (by decide) ?_
          have hwn : whyN gk (num k) = 0 := by assumption
          rw [if_pos hwn] at x2
          rw [telN_yes hwn] at hT
          rw [w32_of (by omega) (by omega)]
          obtain ⟨hI9, hK9⟩ := HI_N hI hwn
          refine ih (k + 1) _ _ (by omega) hI9 ?_ (x2.keep (fun a h1 h2 => up_na _ _ (by omega))) (by rw [up_eq]; exact hwn) ((hF.tr x3.toDf).up sDf_66) hT
          refine (hH.keep (fun a h1 h2 => ?_)).Kp hI.2.1.2 hI.2.2.1.2 (fun j hj => hK9 j (by omega)) (fun j hj => hK9 j (by omega))
          rw [up_na _ _ (by omega)]
          exact x3.row a (fun _ => sDe_f (by omega) (by omega))
set_option maxRecDepth 4000 in
theorem p_X0_doAll {Γ : Gm} {d : Nat} {m : Mem} (g : Row) (n c N : Nat) (num : Nat → Int) (hn : n ∈ nowC) (hI : HI g) (hH : HouR g m 33) (hR : NowR g m n) (hc : c ∈ traC) (hn2 : n = 44 ∨ n = 52) (hN : N ≤ 40) (h0 : m c 0 = N) (hnum : ∀ i, i < N → m (c + 1) i = num i) : Ci Γ (d + 5) MX0_doAll [rv 66, rv n, rv c] m (fun r m' => r = ((telN num N 0 g).2.1 : Int) ∧ NowR (telN num N 0 g).2.2 m' n ∧ m' 66 3 = (telN num N 0 g).1 ∧ Fr (sDf n) m m') := by
  refine Ci.of moX0_doAll rfl rfl (fun hA hM => ?_)
  show Em Γ (d + 5) MX0_doAll _ 0 [rv 66, rv n, rv c, uv, uv] [] m
  obtain ⟨nwK, ⟨nwr0, nwr1, nwr2, nwr3, nwr4, nwr5, nwr6⟩, nwK0, nwK1, nwK2, nwK3, nwK4, nwK5, nwK6, nwN⟩ := nowK n hn
  obtain ⟨taK, tar, taK2, taN⟩ := traK c hc
  refine Ev.aload_n (q := 1) dX0_doAll_0 rfl rfl ?_
  refine Ev.iconst (q := 2) dX0_doAll_1 ki_0 rfl ?_
  refine pI (q := 5) dX0_doAll_2 gfX0_15 k66 rfl rfl ?_
  refine Ev.iconst (q := 6) dX0_doAll_5 ki_0 rfl ?_
  refine istore_n_3 (q := 7) dX0_doAll_6 rfl rfl rfl ?_
  refine Ev.iconst (q := 8) dX0_doAll_7 ki_0 rfl ?_
  refine istore_4 (q := 10) dX0_doAll_8 rfl rfl rfl ?_
  have hF0 : Fr (sDf n) m (up m 66 3 0) := (Fr.rf _ _).up sDf_66
  refine (l_doAll (m0 := up m 66 3 0) n c N num _ hn hc hn2 hN (by rw [up_o _ _ (by omega)]; exact h0) (fun i hi => by rw [up_o _ _ (by omega)]; exact hnum i hi) N 0 _ g (by omega) hI (hH.keep (fun a h1 h2 => up_na _ _ (by omega))) (hR.keep (fun a h1 h2 => up_na _ _ (by omega))) (up_eq _ _ _ _) (Fr.rf _ _) rfl).imp ?_
  intro v m' h9
  exact ⟨h9.1, h9.2.1, h9.2.2.1, hF0.tr h9.2.2.2⟩
set_option maxRecDepth 4000 in
theorem p_X0_draw {Γ : Gm} {d : Nat} {m : Mem} (b : Nat) (hb : 0 < b) (hb2 : b < 100) : Ci Γ (d + 0) MX0_draw [rv 66, iv b] m (fun r m' => r = (drv (drw (m 66 2)) b : Int) ∧ m' = up m 66 2 (drw (m 66 2))) := by
  refine Ci.of moX0_draw rfl rfl (fun hA hM => ?_)
  show Em Γ (d + 0) MX0_draw _ 0 [rv 66, iv b] [] m
  refine Ev.aload_n (q := 1) dX0_draw_0 rfl rfl ?_
  refine Ev.ldc (q := 3) dX0_draw_1 kcX0_156 kcvX0_156 rfl ?_
  refine Ev.aload_n (q := 4) dX0_draw_3 rfl rfl ?_
  refine gI (q := 7) dX0_draw_4 gfX0_9 k66 rfl rfl ?_
  refine Ev.imul (q := 8) dX0_draw_7 rfl ?_
  refine Ev.sipush (q := 11) dX0_draw_8 kh_12345 rfl ?_
  refine Ev.iadd (q := 12) dX0_draw_11 rfl ?_
  refine pI (q := 15) dX0_draw_12 gfX0_9 k66 rfl rfl ?_
  refine Ev.iload_n (q := 16) dX0_draw_15 rfl rfl ?_
  refine Ev.if_le (tgt := 31) (q := 19) dX0_draw_16 (by decide) rfl (fun h1 => ?_) (fun h1 => ?_)
  · skip
    omega
  · skip
    refine Ev.aload_n (q := 20) dX0_draw_19 rfl rfl ?_
    refine gI (q := 23) dX0_draw_20 gfX0_9 k66 rfl rfl ?_
    refine Ev.bipush (q := 25) dX0_draw_23 kb_16 rfl ?_
    refine Ev.iushr (q := 26) dX0_draw_25 rfl ?_
    have hu := iushr16 (drw (m 66 2))
    rw [up_eq]
    obtain ⟨u, hu9⟩ : ∃ u : Nat, o_iushr (drw (m 66 2)) 16 = u := ⟨(o_iushr (drw (m 66 2)) 16).toNat, by omega⟩
    rw [show o_iushr (w32 (w32 (1103515245 * m 66 2) + 12345)) 16 = (u : Int) from hu9]
    refine Ev.iload_n (q := 27) dX0_draw_26 rfl rfl ?_
    refine Ev.irem (q := 28) dX0_draw_27 (by omega) rfl ?_
    refine Ev.goto (q := 32) dX0_draw_28 (by decide) ?_
    refine rI dX0_draw_32 rfl ?_
    refine ⟨?_, rfl⟩
    rw [irem_n (by omega) hb (by omega)]
    unfold drv
    rw [hu9, Int.toNat_natCast]
theorem num_whyN {g : Row} {k a b : Nat} (hk : k = 0 ∨ k = 2 ∨ k = 3 ∨ k = 4 ∨ k = 5) (ha : a < 10) (hb : b < 12) (hb0 : k = 2 ∨ k = 3 → b = 0) (hb4 : k = 4 → b < 10) : whyN g (numD k a b : Nat) = whyD g k a b ∧ doN g (numD k a b : Nat) = doD g k a b := by
  have hq : numD k a b / 1000 = k ∧ argD k (numD k a b % 1000) = (a, b) ∧ numD k a b < 6000 := by
    unfold numD argD
    rcases hk with rfl | rfl | rfl | rfl | rfl
    · refine ⟨by simp; omega, ?_, by simp; omega⟩
      rw [if_neg (by omega), if_neg (by omega), if_neg (by omega), if_neg (by omega)]
      exact Prod.ext (by show (1000 * 0 + 100 * a + b) % 1000 / 100 = a; omega) (by show (1000 * 0 + 100 * a + b) % 1000 % 100 = b; omega)
    · obtain rfl := hb0 (Or.inl rfl)
      refine ⟨by simp; omega, ?_, by simp; omega⟩
      rw [if_pos (by omega), if_pos (by omega)]
      exact Prod.ext (by show (1000 * 2 + a) % 1000 = a; omega) rfl
    · obtain rfl := hb0 (Or.inr rfl)
      refine ⟨by simp; omega, ?_, by simp; omega⟩
      rw [if_pos (by omega), if_pos (by omega)]
      exact Prod.ext (by show (1000 * 3 + a) % 1000 = a; omega) rfl
    · have := hb4 rfl
      refine ⟨by simp; omega, ?_, by simp; omega⟩
      rw [if_neg (by omega), if_pos (by omega), if_neg (by omega), if_pos (by omega)]
      exact Prod.ext (by show (4000 + 10 * a + b) % 1000 / 10 = a; omega) (by show (4000 + 10 * a + b) % 1000 % 10 = b; omega)
    · refine ⟨by simp; omega, ?_, by simp; omega⟩
      rw [if_neg (by omega), if_neg (by omega), if_neg (by omega), if_neg (by omega)]
      exact Prod.ext (by show (1000 * 5 + 100 * a + b) % 1000 / 100 = a; omega) (by show (1000 * 5 + 100 * a + b) % 1000 % 100 = b; omega)
  obtain ⟨q1, q2, q3⟩ := hq
  refine ⟨?_, ?_⟩
  · rw [whyN_k q1 q3, q2]
  · unfold doN
    rw [Int.toNat_natCast, q1, q2]
def drV (g : Row) (x : Int) : Nat := numD (drnV (g 2).toNat (g 3).toNat (g 1).toNat x).2.1 (drnV (g 2).toNat (g 3).toNat (g 1).toNat x).2.2.1 (drnV (g 2).toNat (g 3).toNat (g 1).toNat x).2.2.2
theorem drv_l {x : Int} {b : Nat} (hb : 0 < b) : drv x b < b := Nat.mod_lt _ hb
theorem up_up2 (m : Mem) (a k : Nat) (x y : Int) : up (up m a k x) a k y = up m a k y := by
  funext b j
  unfold up
  split <;> rfl
set_option maxRecDepth 4000 in
theorem p_X0_drawOne {Γ : Gm} {d : Nat} {m : Mem} (g : Row) (n : Nat) (hn : n ∈ nowC) (hI : HI g) (hH : HouR g m 33) (hR : NowR g m n) (hL0 : 0 < g 2) (hP0 : 0 < g 3) : Ci Γ (d + 4) MX0_drawOne [rv 66, rv n] m (fun r m' => r = whyN g (drV g (m 66 2) : Nat) ∧ NowR (if whyN g (drV g (m 66 2) : Nat) = 0 then doN g (drV g (m 66 2) : Nat) else g) m' n ∧ m' 66 2 = (drnV (g 2).toNat (g 3).toNat (g 1).toNat (m 66 2)).1 ∧ Fr (sDf n) m m') := by
  refine Ci.of moX0_drawOne rfl rfl (fun hA hM => ?_)
  show Em Γ (d + 4) MX0_drawOne _ 0 [rv 66, rv n, uv, uv] [] m
  obtain ⟨nwK, ⟨nwr0, nwr1, nwr2, nwr3, nwr4, nwr5, nwr6⟩, nwK0, nwK1, nwK2, nwK3, nwK4, nwK5, nwK6, nwN⟩ := nowK n hn
  obtain ⟨n0, n1, n2, n3⟩ := hH.n0
  have hF12 := hI.1
  have hL3 := hI.2.1
  have hP8 := hI.2.2.1
  have n0' : m 33 0 = (((g 1).toNat : Nat) : Int) := by rw [n0]; omega
  have n2' : m 33 2 = (((g 2).toNat : Nat) : Int) := by rw [n2]; omega
  have n3' : m 33 3 = (((g 3).toNat : Nat) : Int) := by rw [n3]; omega
  refine Ev.aload_n (q := 1) dX0_drawOne_0 rfl rfl ?_
  refine Ev.bipush (q := 3) dX0_drawOne_1 kb_6 rfl ?_
  refine cV1i (q := 6) (d' := d + 3) dX0_drawOne_3 mlX0_146 moX0_draw mvX0_draw k66 rfl rfl rfl (Nat.le_refl _) rfl rfl rfl (p_X0_draw 6 (by decide) (by decide)) (fun r1 m1 e1 => ?_)
  obtain ⟨rfl, rfl⟩ := e1
  have hd6 := drv_l (x := drw (m 66 2)) (b := 6) (by decide)
  obtain ⟨kk9, hk9⟩ : ∃ kk9, kk9 = drv (drw (m 66 2)) 6 := ⟨_, rfl⟩
  rw [← hk9] at hd6 ⊢
  refine istore_n_2 (q := 7) dX0_drawOne_6 rfl rfl rfl ?_
  refine Ev.aload_n (q := 8) dX0_drawOne_7 rfl rfl ?_
  refine Ev.iload_n (q := 9) dX0_drawOne_8 rfl rfl ?_
  refine Ev.iconst (q := 10) dX0_drawOne_9 ki_3 rfl ?_
  refine Ev.icmp_ge (tgt := 23) (q := 13) dX0_drawOne_10 (by decide) rfl (fun h2 => ?_) (fun h2 => ?_)
  · skip
    have hge : 3 ≤ kk9 := by omega
    refine Ev.aload_n (q := 24) dX0_drawOne_23 rfl rfl ?_
    refine gR (q := 27) dX0_drawOne_24 gfX0_18 k66 r66_0 rfl rfl ?_
    refine gI (q := 30) dX0_drawOne_27 gfX0_77 k33 rfl rfl ?_
    first
      | rw [up_o _ _ (by decide), n3']
      | skip
    refine cV1i (q := 33) (d' := d + 3) dX0_drawOne_30 mlX0_146 moX0_draw mvX0_draw k66 rfl rfl rfl (Nat.le_refl _) rfl rfl rfl (p_X0_draw (g 3).toNat (by omega) (by omega)) (fun r3 m3 e3 => ?_)
    obtain ⟨rfl, rfl⟩ := e3
    simp only [up_eq, up_up2]
    have hd3 := drv_l (x := drw (drw (m 66 2))) (b := (g 3).toNat) (by omega)
    refine istore_n_3 (q := 34) dX0_drawOne_33 rfl rfl rfl ?_
    refine Ev.iload_n (q := 35) dX0_drawOne_34 rfl rfl ?_
    obtain ⟨kv, hkv⟩ : ∃ kv : Int, kv = (kk9 : Int) := ⟨_, rfl⟩
    rw [← hkv]
    by_cases w3 : kv = 3
    · subst w3
      refine Ev.tabIn (q := 82) dX0_drawOne_35 (by decide) (by decide) rfl rfl ?_
      refine Ev.aload_n (q := 83) dX0_drawOne_82 rfl rfl ?_
      refine Ev.aload_n (q := 84) dX0_drawOne_83 rfl rfl ?_
      refine Ev.iload_n (q := 85) dX0_drawOne_84 rfl rfl ?_
      refine cV2i (q := 88) (d' := d + 3) dX0_drawOne_85 mlX0_133 moX0_getOut mvX0_getOut k66 rfl rfl rfl (Nat.le_refl _) rfl rfl rfl (p_X0_getOut g n _ hn hI (hH.keep (fun a h1 h2 => up_na _ _ (by omega))) (hR.keep (fun a h1 h2 => up_na _ _ (by omega)))) (fun r4 m4 e4 => ?_)
      obtain ⟨x1, x2, x3⟩ := e4
      have hdn : drnV (g 2).toNat (g 3).toNat (g 1).toNat (m 66 2) = ((drw (drw (m 66 2))), 3, (drv (drw (drw (m 66 2))) (g 3).toNat), 0) := by unfold drnV; rw [← hk9, if_neg (by omega), if_neg (by omega), if_pos (by omega)]
      have hnn := num_whyN (g := g) (k := 3) (a := (drv (drw (drw (m 66 2))) (g 3).toNat)) (b := 0) (by decide) (by omega) (by omega) (by omega) (by omega)
      have hdv : drV g (m 66 2) = numD 3 (drv (drw (drw (m 66 2))) (g 3).toNat) 0 := by unfold drV; rw [hdn]
      rw [hdv, hnn.1, hnn.2, hdn]
      refine rI dX0_drawOne_88 rfl ?_
      refine ⟨x1, x2, ?_, ((Fr.rf _ _).up sDf_66).tr x3.toDf⟩
      rw [x3 66 2 (sDe_f (by omega) (by omega)), up_eq]
    by_cases w4 : kv = 4
    · subst w4
      refine Ev.tabIn (q := 89) dX0_drawOne_35 (by decide) (by decide) rfl rfl ?_
      refine Ev.aload_n (q := 90) dX0_drawOne_89 rfl rfl ?_
      refine Ev.aload_n (q := 91) dX0_drawOne_90 rfl rfl ?_
      refine Ev.iload_n (q := 92) dX0_drawOne_91 rfl rfl ?_
      refine Ev.aload_n (q := 93) dX0_drawOne_92 rfl rfl ?_
      refine Ev.aload_n (q := 94) dX0_drawOne_93 rfl rfl ?_
      refine gR (q := 97) dX0_drawOne_94 gfX0_18 k66 r66_0 rfl rfl ?_
      refine gI (q := 100) dX0_drawOne_97 gfX0_150 k33 rfl rfl ?_
      rw [up_o _ _ (by decide), n2']
      refine cV1i (q := 103) (d' := d + 3) dX0_drawOne_100 mlX0_146 moX0_draw mvX0_draw k66 rfl rfl rfl (Nat.le_refl _) rfl rfl rfl (p_X0_draw (g 2).toNat (by omega) (by omega)) (fun r5 m5 e5 => ?_)
      obtain ⟨rfl, rfl⟩ := e5
      simp only [up_eq, up_up2]
      have hd4 := drv_l (x := (drw (drw (drw (m 66 2))))) (b := (g 2).toNat) (by omega)
      refine cV3i (q := 106) (d' := d + 3) dX0_drawOne_103 mlX0_136 moX0_getIn mvX0_getIn k66 rfl rfl rfl (Nat.le_refl _) rfl rfl rfl (p_X0_getIn g n _ _ hn hI (hH.keep (fun a h1 h2 => up_na _ _ (by omega))) (hR.keep (fun a h1 h2 => up_na _ _ (by omega)))) (fun r6 m6 e6 => ?_)
      obtain ⟨x1, x2, x3⟩ := e6
      have hdn : drnV (g 2).toNat (g 3).toNat (g 1).toNat (m 66 2) = ((drw (drw (drw (m 66 2)))), 4, (drv (drw (drw (m 66 2))) (g 3).toNat), (drv (drw (drw (drw (m 66 2)))) (g 2).toNat)) := by unfold drnV; rw [← hk9, if_neg (by omega), if_neg (by omega), if_neg (by omega), if_pos (by omega)]
      have hnn := num_whyN (g := g) (k := 4) (a := (drv (drw (drw (m 66 2))) (g 3).toNat)) (b := (drv (drw (drw (drw (m 66 2)))) (g 2).toNat)) (by decide) (by omega) (by omega) (by omega) (by omega)
      have hdv : drV g (m 66 2) = numD 4 (drv (drw (drw (m 66 2))) (g 3).toNat) (drv (drw (drw (drw (m 66 2)))) (g 2).toNat) := by unfold drV; rw [hdn]
      rw [hdv, hnn.1, hnn.2, hdn]
      refine rI dX0_drawOne_106 rfl ?_
      refine ⟨x1, x2, ?_, ((Fr.rf _ _).up sDf_66).tr x3.toDf⟩
      rw [x3 66 2 (sDe_f (by omega) (by omega)), up_eq]
    by_cases w5 : kv = 5
    · subst w5
      refine Ev.tabIn (q := 107) dX0_drawOne_35 (by decide) (by decide) rfl rfl ?_
      refine Ev.aload_n (q := 108) dX0_drawOne_107 rfl rfl ?_
      refine Ev.aload_n (q := 109) dX0_drawOne_108 rfl rfl ?_
      refine Ev.iload_n (q := 110) dX0_drawOne_109 rfl rfl ?_
      refine Ev.aload_n (q := 111) dX0_drawOne_110 rfl rfl ?_
      refine Ev.aload_n (q := 112) dX0_drawOne_111 rfl rfl ?_
      refine gR (q := 115) dX0_drawOne_112 gfX0_18 k66 r66_0 rfl rfl ?_
      refine gI (q := 118) dX0_drawOne_115 gfX0_153 k33 rfl rfl ?_
      rw [up_o _ _ (by decide), n0']
      refine cV1i (q := 121) (d' := d + 3) dX0_drawOne_118 mlX0_146 moX0_draw mvX0_draw k66 rfl rfl rfl (Nat.le_refl _) rfl rfl rfl (p_X0_draw (g 1).toNat (by omega) (by omega)) (fun r7 m7 e7 => ?_)
      obtain ⟨rfl, rfl⟩ := e7
      simp only [up_eq, up_up2]
      have hd4 := drv_l (x := (drw (drw (drw (m 66 2))))) (b := (g 1).toNat) (by omega)
      refine cV3i (q := 124) (d' := d + 3) dX0_drawOne_121 mlX0_139 moX0_walkTo mvX0_walkTo k66 rfl rfl rfl (Nat.le_refl _) rfl rfl rfl (p_X0_walkTo g n _ _ hn hI (hH.keep (fun a h1 h2 => up_na _ _ (by omega))) (hR.keep (fun a h1 h2 => up_na _ _ (by omega)))) (fun r8 m8 e8 => ?_)
      obtain ⟨x1, x2, x3⟩ := e8
      have hdn : drnV (g 2).toNat (g 3).toNat (g 1).toNat (m 66 2) = ((drw (drw (drw (m 66 2)))), 5, (drv (drw (drw (m 66 2))) (g 3).toNat), (drv (drw (drw (drw (m 66 2)))) (g 1).toNat)) := by unfold drnV; rw [← hk9, if_neg (by omega), if_neg (by omega), if_neg (by omega), if_neg (by omega)]
      have hnn := num_whyN (g := g) (k := 5) (a := (drv (drw (drw (m 66 2))) (g 3).toNat)) (b := (drv (drw (drw (drw (m 66 2)))) (g 1).toNat)) (by decide) (by omega) (by omega) (by omega) (by omega)
      have hdv : drV g (m 66 2) = numD 5 (drv (drw (drw (m 66 2))) (g 3).toNat) (drv (drw (drw (drw (m 66 2)))) (g 1).toNat) := by unfold drV; rw [hdn]
      rw [hdv, hnn.1, hnn.2, hdn]
      refine rI dX0_drawOne_124 rfl ?_
      refine ⟨x1, x2, ?_, ((Fr.rf _ _).up sDf_66).tr x3.toDf⟩
      rw [x3 66 2 (sDe_f (by omega) (by omega)), up_eq]
    exfalso
    omega
  · skip
    have hlo : kk9 < 3 := by omega
    refine Ev.aload_n (q := 14) dX0_drawOne_13 rfl rfl ?_
    refine gR (q := 17) dX0_drawOne_14 gfX0_18 k66 r66_0 rfl rfl ?_
    refine gI (q := 20) dX0_drawOne_17 gfX0_150 k33 rfl rfl ?_
    rw [up_o _ _ (by decide), n2']
    refine Ev.goto (q := 30) dX0_drawOne_20 (by decide) ?_
    first
      | rw [up_o _ _ (by decide), n3']
      | skip
    refine cV1i (q := 33) (d' := d + 3) dX0_drawOne_30 mlX0_146 moX0_draw mvX0_draw k66 rfl rfl rfl (Nat.le_refl _) rfl rfl rfl (p_X0_draw (g 2).toNat (by omega) (by omega)) (fun r9 m9 e9 => ?_)
    obtain ⟨rfl, rfl⟩ := e9
    simp only [up_eq, up_up2]
    have hd3 := drv_l (x := drw (drw (m 66 2))) (b := (g 2).toNat) (by omega)
    refine istore_n_3 (q := 34) dX0_drawOne_33 rfl rfl rfl ?_
    refine Ev.iload_n (q := 35) dX0_drawOne_34 rfl rfl ?_
    obtain ⟨kv, hkv⟩ : ∃ kv : Int, kv = (kk9 : Int) := ⟨_, rfl⟩
    rw [← hkv]
    by_cases w2 : kv = 2
    · subst w2
      refine Ev.tabIn (q := 64) dX0_drawOne_35 (by decide) (by decide) rfl rfl ?_
      refine Ev.aload_n (q := 65) dX0_drawOne_64 rfl rfl ?_
      refine Ev.aload_n (q := 66) dX0_drawOne_65 rfl rfl ?_
      refine Ev.iload_n (q := 67) dX0_drawOne_66 rfl rfl ?_
      refine Ev.aload_n (q := 68) dX0_drawOne_67 rfl rfl ?_
      refine Ev.aload_n (q := 69) dX0_drawOne_68 rfl rfl ?_
      refine gR (q := 72) dX0_drawOne_69 gfX0_18 k66 r66_0 rfl rfl ?_
      refine gI (q := 75) dX0_drawOne_72 gfX0_153 k33 rfl rfl ?_
      rw [up_o _ _ (by decide), n0']
      refine cV1i (q := 78) (d' := d + 3) dX0_drawOne_75 mlX0_146 moX0_draw mvX0_draw k66 rfl rfl rfl (Nat.le_refl _) rfl rfl rfl (p_X0_draw (g 1).toNat (by omega) (by omega)) (fun r10 m10 e10 => ?_)
      obtain ⟨rfl, rfl⟩ := e10
      simp only [up_eq, up_up2]
      have hd4 := drv_l (x := (drw (drw (drw (m 66 2))))) (b := (g 1).toNat) (by omega)
      refine cV3i (q := 81) (d' := d + 3) dX0_drawOne_78 mlX0_122 moX0_lightOn mvX0_lightOn k66 rfl rfl rfl (Nat.le_refl _) rfl rfl rfl (p_X0_lightOn g n _ _ hn hI (hH.keep (fun a h1 h2 => up_na _ _ (by omega))) (hR.keep (fun a h1 h2 => up_na _ _ (by omega)))) (fun r11 m11 e11 => ?_)
      obtain ⟨x1, x2, x3⟩ := e11
      have hdn : drnV (g 2).toNat (g 3).toNat (g 1).toNat (m 66 2) = ((drw (drw (drw (m 66 2)))), 0, (drv (drw (drw (m 66 2))) (g 2).toNat), (drv (drw (drw (drw (m 66 2)))) (g 1).toNat)) := by unfold drnV; rw [← hk9, if_neg (by omega), if_pos (by omega)]
      have hnn := num_whyN (g := g) (k := 0) (a := (drv (drw (drw (m 66 2))) (g 2).toNat)) (b := (drv (drw (drw (drw (m 66 2)))) (g 1).toNat)) (by decide) (by omega) (by omega) (by omega) (by omega)
      have hdv : drV g (m 66 2) = numD 0 (drv (drw (drw (m 66 2))) (g 2).toNat) (drv (drw (drw (drw (m 66 2)))) (g 1).toNat) := by unfold drV; rw [hdn]
      rw [hdv, hnn.1, hnn.2, hdn]
      refine rI dX0_drawOne_81 rfl ?_
      refine ⟨x1, x2, ?_, ((Fr.rf _ _).up sDf_66).tr x3.toDf⟩
      rw [x3 66 2 (sDe_f (by omega) (by omega)), up_eq]
    refine Ev.tabOut (q := 125) dX0_drawOne_35 (by omega) rfl ?_
    refine Ev.aload_n (q := 126) dX0_drawOne_125 rfl rfl ?_
    refine Ev.aload_n (q := 127) dX0_drawOne_126 rfl rfl ?_
    refine Ev.iload_n (q := 128) dX0_drawOne_127 rfl rfl ?_
    refine cV2i (q := 131) (d' := d + 3) dX0_drawOne_128 mlX0_129 moX0_rideOnce mvX0_rideOnce k66 rfl rfl rfl (Nat.le_refl _) rfl rfl rfl (p_X0_rideOnce g n _ hn hI (hH.keep (fun a h1 h2 => up_na _ _ (by omega))) (hR.keep (fun a h1 h2 => up_na _ _ (by omega)))) (fun r12 m12 e12 => ?_)
    obtain ⟨x1, x2, x3⟩ := e12
    have hdn : drnV (g 2).toNat (g 3).toNat (g 1).toNat (m 66 2) = ((drw (drw (m 66 2))), 2, (drv (drw (drw (m 66 2))) (g 2).toNat), 0) := by unfold drnV; rw [← hk9, if_pos (by omega)]
    have hnn := num_whyN (g := g) (k := 2) (a := (drv (drw (drw (m 66 2))) (g 2).toNat)) (b := 0) (by decide) (by omega) (by omega) (by omega) (by omega)
    have hdv : drV g (m 66 2) = numD 2 (drv (drw (drw (m 66 2))) (g 2).toNat) 0 := by unfold drV; rw [hdn]
    rw [hdv, hnn.1, hnn.2, hdn]
    refine rI dX0_drawOne_131 rfl ?_
    refine ⟨x1, x2, ?_, ((Fr.rf _ _).up sDf_66).tr x3.toDf⟩
    rw [x3 66 2 (sDe_f (by omega) (by omega)), up_eq]
