/-! ===== the class: what lights do, weighed ===== -/
theorem bstL_c {sp : Int} {st : Nat → Nat → Int} {ft : Nat → Int} {h s : Nat} {tt c c' : Int} {u : Bool} (n : Nat) (b : Int × Int) : bstL sp st ft n (h, tt, s, u, c) b = bstL sp st ft n (h, tt, s, u, c') b := by cases n <;> rfl
theorem bestV_in {g : Row} (hI : HI g) {p l lit : Nat} (hp : (p : Int) < g 3) (hin : g (88 + p) = l) : bestV g p lit = bstL (g (22 + l)) (stopV g l) (fun f => footV g p f (g (28 + p)).toNat) 12 (withLit (liftT g l) lit) (w32 (g (80 + p) + footV g p (g (60 + l)).toNat (g (28 + p)).toNat), ((g (60 + l)).toNat : Int)) := by
  unfold bestV
  dsimp only
  have hq := (hI.pers hp).2.2.2.2.2
  rw [if_neg (by omega), hin, Int.toNat_natCast]
  rcases hq with q | ⟨q1, q2, q3⟩
  · omega
  · rw [hin, Int.toNat_natCast] at q3
    rw [q3]
set_option maxRecDepth 4000 in
theorem l_weighA {Γ : Gm} {d : Nat} {m0 : Mem} {Po : Int → Mem → Prop} (g : Row) (l : Nat) (hI : HI g) (hl : (l : Int) < g 2) (hH : HouR g m0 33) (hN : NowR g m0 44) (f lit : Nat) (hfF : (f : Int) < g 1) (hf : m0 71 2 = f)
    (kont : ∀ M : Mem, (∀ p : Nat, p < (g 3).toNat → bpM M p = (w32 (g (80 + p) + footV g p f (g (28 + p)).toNat), (f : Int))) → (∀ a, a ≠ 69 → a ≠ 70 → M a = m0 a) → Em Γ (d + 4) MX3_weigh Po 83 [rv 68, iv l, iv lit, iv ((g 3).toNat : Nat)] [] M) :
    ∀ (q k : Nat) (M : Mem), k + q = (g 3).toNat → (∀ p : Nat, p < k → bpM M p = (w32 (g (80 + p) + footV g p f (g (28 + p)).toNat), (f : Int))) → (∀ a, a ≠ 69 → a ≠ 70 → M a = m0 a) → Em Γ (d + 4) MX3_weigh Po 22 [rv 68, iv l, iv lit, iv k] [] M := by
  have hF12 := hI.1
  have hP8 := hI.2.2.1
  have hL3 := hI.2.1
  intro q
  induction q with
  | zero =>
    intro k M hk hB hF
    have e33 : M 33 3 = g 3 := by rw [hF 33 (by decide) (by decide)]; exact hH.n0.2.2.2
    have eF : M 71 2 = f := by rw [hF 71 (by decide) (by decide)]; exact hf
    refine Ev.iload_n (q := 23) dX3_weigh_22 rfl rfl ?_
    refine Ev.aload_n (q := 24) dX3_weigh_23 rfl rfl ?_
    refine gR (q := 27) dX3_weigh_24 gfX3_32 k68 r68_0 rfl rfl ?_
    refine gI (q := 30) dX3_weigh_27 gfX3_56 k33 rfl rfl ?_
    rw [e33]
    refine Ev.icmp_ge (tgt := 83) (q := 33) dX3_weigh_30 (by decide) rfl (fun h1 => ?_) (fun h1 => ?_)
    · skip
      obtain rfl : k = (g 3).toNat := by omega
      exact kont M (fun p hp => hB p (by omega)) hF
    · skip
      omega
  | succ q ih =>
    intro k M hk hB hF
    have e33 : M 33 3 = g 3 := by rw [hF 33 (by decide) (by decide)]; exact hH.n0.2.2.2
    have eF : M 71 2 = f := by rw [hF 71 (by decide) (by decide)]; exact hf
    have e50 : M 50 k = g (80 + k) := by rw [hF 50 (by decide) (by decide)]; exact (hN.2 k (by omega)).2.1
    have eFt : M 42 (k * 12 + f) = footV g k f (g (28 + k)).toNat := by rw [hF 42 (by decide) (by decide)]; exact hH.fh (by omega) hfF
    refine Ev.iload_n (q := 23) dX3_weigh_22 rfl rfl ?_
    refine Ev.aload_n (q := 24) dX3_weigh_23 rfl rfl ?_
    refine gR (q := 27) dX3_weigh_24 gfX3_32 k68 r68_0 rfl rfl ?_
    refine gI (q := 30) dX3_weigh_27 gfX3_56 k33 rfl rfl ?_
    rw [e33]
    refine Ev.icmp_ge (tgt := 83) (q := 33) dX3_weigh_30 (by decide) rfl (fun h1 => ?_) (fun h1 => ?_)
    · skip
      omega
    · skip
      refine Ev.aload_n (q := 34) dX3_weigh_33 rfl rfl ?_
      refine gR (q := 37) dX3_weigh_34 gfX3_15 k68 r68_4 rfl rfl ?_
      refine Ev.iload_n (q := 38) dX3_weigh_37 rfl rfl ?_
      refine Ev.aload_n (q := 39) dX3_weigh_38 rfl rfl ?_
      refine gR (q := 42) dX3_weigh_39 gfX3_45 k68 r68_2 rfl rfl ?_
      refine gI (q := 45) dX3_weigh_42 gfX3_61 k71 rfl rfl ?_
      rw [eF]
      refine sI (q := 46) (k := k) dX3_weigh_45 k70 (by first | rfl | omega | (simp (disch := omega) only [w32_of]; omega)) (by omega) rfl ?_
      refine Ev.aload_n (q := 47) dX3_weigh_46 rfl rfl ?_
      refine gR (q := 50) dX3_weigh_47 gfX3_9 k68 r68_3 rfl rfl ?_
      refine Ev.iload_n (q := 51) dX3_weigh_50 rfl rfl ?_
      refine Ev.aload_n (q := 52) dX3_weigh_51 rfl rfl ?_
      refine gR (q := 55) dX3_weigh_52 gfX3_36 k68 r68_1 rfl rfl ?_
      refine gR (q := 58) dX3_weigh_55 gfX3_64 k44 r44_5 rfl rfl ?_
      refine Ev.iload_n (q := 59) dX3_weigh_58 rfl rfl ?_
      refine aI (q := 60) (k := k) dX3_weigh_59 k50 (by first | rfl | omega | (simp (disch := omega) only [w32_of]; omega)) (by omega) rfl ?_
      rw [up_o _ _ (by decide), e50]
      refine Ev.aload_n (q := 61) dX3_weigh_60 rfl rfl ?_
      refine gR (q := 64) dX3_weigh_61 gfX3_32 k68 r68_0 rfl rfl ?_
      refine Ev.iload_n (q := 65) dX3_weigh_64 rfl rfl ?_
      refine Ev.aload_n (q := 66) dX3_weigh_65 rfl rfl ?_
      refine gR (q := 69) dX3_weigh_66 gfX3_45 k68 r68_2 rfl rfl ?_
      refine gI (q := 72) dX3_weigh_69 gfX3_61 k71 rfl rfl ?_
      rw [up_o _ _ (by decide), eF]
      refine cV2i (q := 75) (d' := d + 3) dX3_weigh_72 mlX3_69 moX1_onFootHome mvX1_onFootHome k33 rfl rfl rfl (Nat.le_refl _) rfl rfl rfl (p_X1_onFootHome 33 k f (by decide) (by omega) (by omega)) (fun r2 m2 e2 => ?_)
      obtain ⟨rfl, e2⟩ := e2
      obtain rfl := e2.symm
      rw [show (33 : Nat) + 9 = 42 from rfl, up_o _ _ (by decide), eFt]
      refine Ev.iadd (q := 76) dX3_weigh_75 rfl ?_
      refine sI (q := 77) (k := k) dX3_weigh_76 k69 (by first | rfl | omega | (simp (disch := omega) only [w32_of]; omega)) (by omega) rfl ?_
      refine iinc_3 (q := 80) dX3_weigh_77 rfl rfl rfl ?_
      refine Ev.goto (q := 22) dX3_weigh_80 (by decide) ?_
      rw [w32_of (z := (k : Int) + 1) (by omega) (by omega)]
      refine ih (k + 1) _ (by omega) (fun p hp => ?_) (fun a h1 h2 => by rw [up_na _ _ h1, up_na _ _ h2]; exact hF a h1 h2)
      show ((up (up M 70 k _) 69 k _) 69 p, (up (up M 70 k _) 69 k _) 70 p) = _
      by_cases e : p = k
      · subst e
        rw [up_eq, up_o _ _ (by decide), up_eq]
      · rw [up_k _ _ e, up_o _ _ (by decide), up_o _ _ (by decide), up_k _ _ e]
        exact hB p (by omega)
set_option maxRecDepth 4000 in
theorem l_weighB {Γ : Gm} {d : Nat} {m0 : Mem} (g : Row) (l : Nat) (hI : HI g) (hl : (l : Int) < g 2) (hH : HouR g m0 33) (hN : NowR g m0 44) (lit : Nat) : ∀ (q k : Nat) (M : Mem) (h : Nat) (tt : Int) (s : Nat) (u : Bool) (cm : Int), k + q = 12 → CT M 71 l (h, tt, s, u, cm) → tOk2 (g 1).toNat (h, tt, s, u, cm) → (∀ p : Nat, (p : Int) < g 3 → g (88 + p) = l → bestV g p lit = bstL (g (22 + l)) (stopV g l) (fun f => footV g p f (g (28 + p)).toNat) q (h, tt, s, u, cm) (bpM M p)) → Fr sLi m0 M → Em Γ (d + 4) MX3_weigh (fun r m' => m' 68 5 = sumV g l lit ∧ m' 68 6 = latV g l lit ∧ inB g l lit m' ∧ Fr sLi m0 m') 85 [rv 68, iv l, iv lit, iv k] [] M := by
  have hF12 := hI.1
  have hP8 := hI.2.2.1
  have hL3 := hI.2.1
  intro q
  induction q with
  | zero =>
    intro k M h tt s u cm hk hT hok hB hF
    refine Ev.iload_n (q := 86) dX3_weigh_85 rfl rfl ?_
    refine Ev.bipush (q := 88) dX3_weigh_86 kb_12 rfl ?_
    refine Ev.icmp_ge (tgt := 112) (q := 91) dX3_weigh_88 (by decide) rfl (fun h1 => ?_) (fun h1 => ?_)
    · skip
      have hB9 : inB g l lit M := fun p hp hin => (hB p hp hin).symm
      have hH9 : HouR g M 33 := hH.keep (fun a h1 h2 => hF.row a (fun _ => sLi_f (by omega)))
      have hN9 : NowR g M 44 := hN.keep (fun a h1 h2 => hF.row a (fun _ => sLi_f (by omega)))
      refine Ev.aload_n (q := 113) dX3_weigh_112 rfl rfl ?_
      refine Ev.iload_n (q := 114) dX3_weigh_113 rfl rfl ?_
      refine cV1v (q := 117) (d' := d + 3) dX3_weigh_114 mlX3_81 moX3_addUp mvX3_addUp k68 rfl rfl rfl (Nat.le_refl _) rfl rfl rfl (p_X3_addUp g l lit hI hl hH9 hN9 hB9) (fun r2 m2 e2 => ?_)
      obtain ⟨y1, y2, y3⟩ := e2
      refine rV dX3_weigh_117 rfl ?_
      refine ⟨y1, y2, fun p hp hin => ?_, fun a k q => ?_⟩
      · rw [← hB9 p hp hin]; unfold bpM; rw [y3 69 (by decide), y3 70 (by decide)]
      · rw [y3 a (fun z => by rw [z] at q; cases q)]; exact hF a k q
    · skip
      omega
  | succ q ih =>
    intro k M h tt s u cm hk hT hok hB hF
    refine Ev.iload_n (q := 86) dX3_weigh_85 rfl rfl ?_
    refine Ev.bipush (q := 88) dX3_weigh_86 kb_12 rfl ?_
    refine Ev.icmp_ge (tgt := 112) (q := 91) dX3_weigh_88 (by decide) rfl (fun h1 => ?_) (fun h1 => ?_)
    · skip
      omega
    · skip
      refine Ev.aload_n (q := 92) dX3_weigh_91 rfl rfl ?_
      refine gR (q := 95) dX3_weigh_92 gfX3_45 k68 r68_2 rfl rfl ?_
      refine cV0i (q := 98) (d' := d + 3) dX3_weigh_95 mlX3_73 moX10_rideOn mvX10_rideOn k71 rfl rfl rfl (Nat.le_refl _) rfl rfl rfl (p_X10_rideOn g 71 l h tt s u cm (by decide) hI hl (hH.keep (fun a h1 h2 => hF.row a (fun _ => sLi_f (by omega)))) hT hok) (fun r2 m2 e2 => ?_)
      obtain ⟨M9, rfl⟩ : ∃ M9, M9 = m2 := ⟨_, rfl⟩
      obtain ⟨eN, eS⟩ := e2
      refine Ev.if_eq (tgt := 112) (q := 101) dX3_weigh_98 (by decide) rfl (fun h3 => ?_) (fun h3 => ?_)
      · skip
        have hg : tgo (g (22 + l)) (stopV g l) (h, tt, s, u, cm) = none := by
          cases hg : tgo (g (22 + l)) (stopV g l) (h, tt, s, u, cm) with
          | none => rfl
          | some t' => have := (eS t' hg).1; omega
        obtain ⟨-, rfl⟩ := eN hg
        have hB9 : inB g l lit M9 := fun p hp hin => by rw [hB p hp hin, bstL_none hg]
        have hH9 : HouR g M9 33 := hH.keep (fun a h1 h2 => hF.row a (fun _ => sLi_f (by omega)))
        have hN9 : NowR g M9 44 := hN.keep (fun a h1 h2 => hF.row a (fun _ => sLi_f (by omega)))
        refine Ev.aload_n (q := 113) dX3_weigh_112 rfl rfl ?_
        refine Ev.iload_n (q := 114) dX3_weigh_113 rfl rfl ?_
        refine cV1v (q := 117) (d' := d + 3) dX3_weigh_114 mlX3_81 moX3_addUp mvX3_addUp k68 rfl rfl rfl (Nat.le_refl _) rfl rfl rfl (p_X3_addUp g l lit hI hl hH9 hN9 hB9) (fun r4 m4 e4 => ?_)
        obtain ⟨y1, y2, y3⟩ := e4
        refine rV dX3_weigh_117 rfl ?_
        refine ⟨y1, y2, fun p hp hin => ?_, fun a k q => ?_⟩
        · rw [← hB9 p hp hin]; unfold bpM; rw [y3 69 (by decide), y3 70 (by decide)]
        · rw [y3 a (fun z => by rw [z] at q; cases q)]; exact hF a k q
      · skip
        obtain ⟨t', hg⟩ : ∃ t', tgo (g (22 + l)) (stopV g l) (h, tt, s, u, cm) = some t' := by
          cases hg : tgo (g (22 + l)) (stopV g l) (h, tt, s, u, cm) with
          | none => have := (eN hg).1; omega
          | some t' => exact ⟨t', rfl⟩
        obtain ⟨-, hT', hF'⟩ := eS t' hg
        have hok' := tgo_ok2 hok hg
        have hF9 : Fr sLi m0 M9 := hF.tr hF'.toLi
        have hH9 : HouR g M9 33 := hH.keep (fun a h1 h2 => hF9.row a (fun _ => sLi_f (by omega)))
        have hN9 : NowR g M9 44 := hN.keep (fun a h1 h2 => hF9.row a (fun _ => sLi_f (by omega)))
        refine Ev.aload_n (q := 102) dX3_weigh_101 rfl rfl ?_
        refine Ev.iload_n (q := 103) dX3_weigh_102 rfl rfl ?_
        refine cV1v (q := 106) (d' := d + 3) dX3_weigh_103 mlX3_77 moX3_offerStop mvX3_offerStop k68 rfl rfl rfl (Nat.le_refl _) rfl rfl rfl (p_X3_offerStop g l t'.1 t'.2.2.2.2 hI hl hH9 hN9 (by have := hok'.1.2.1; omega) hT'.2 hT'.1.2.1) (fun r5 m5 e5 => ?_)
        obtain ⟨M8, rfl⟩ : ∃ M8, M8 = m5 := ⟨_, rfl⟩
        obtain ⟨z1, z2⟩ := e5
        refine iinc_3 (q := 109) dX3_weigh_106 rfl rfl rfl ?_
        refine Ev.goto (q := 85) dX3_weigh_109 (by decide) ?_
        rw [w32_of (by omega) (by omega)]
        refine ih (k + 1) M8 t'.1 t'.2.1 t'.2.2.1 t'.2.2.2.1 t'.2.2.2.2 (by omega) (hT'.1.keep (z2 71 (by decide) (by decide))) hok' (fun p hp hin => ?_) (fun a j q => ?_)
        · rw [hB p hp hin, bstL_some hg, z1 p hp hin]
          unfold bpM
          rw [hF'.rowA (by decide), hF'.rowA (by decide)]
        · rw [z2 a (fun z => by rw [z] at q; cases q) (fun z => by rw [z] at q; cases q)]
          exact hF9 a j q
set_option maxRecDepth 4000 in
theorem p_X3_weigh {Γ : Gm} {d : Nat} {m : Mem} (g : Row) (l lit : Nat) (hI : HI g) (hl : (l : Int) < g 2) (hH : HouR g m 33) (hN : NowR g m 44) (hlit : litOk g l lit) : Ci Γ (d + 4) MX3_weigh [rv 68, iv l, iv lit] m (fun r m' => m' 68 5 = sumV g l lit ∧ m' 68 6 = latV g l lit ∧ inB g l lit m' ∧ Fr sLi m m') := by
  refine Ci.of moX3_weigh rfl rfl (fun hA hM => ?_)
  show Em Γ (d + 4) MX3_weigh _ 0 [rv 68, iv l, iv lit, uv] [] m
  have hP8 := hI.2.2.1
  refine Ev.aload_n (q := 1) dX3_weigh_0 rfl rfl ?_
  refine gR (q := 4) dX3_weigh_1 gfX3_45 k68 r68_2 rfl rfl ?_
  refine Ev.aload_n (q := 5) dX3_weigh_4 rfl rfl ?_
  refine gR (q := 8) dX3_weigh_5 gfX3_36 k68 r68_1 rfl rfl ?_
  refine Ev.iload_n (q := 9) dX3_weigh_8 rfl rfl ?_
  refine cV2v (q := 12) (d' := d + 3) dX3_weigh_9 mlX3_49 moX10_begin mvX10_begin k71 rfl rfl rfl (Nat.le_refl _) rfl rfl rfl (p_X10_begin g 71 44 l (by decide) (by decide) hI hl hN) (fun r1 m1 e1 => ?_)
  obtain ⟨M1, rfl⟩ : ∃ M1, M1 = m1 := ⟨_, rfl⟩
  obtain ⟨hT1, hF1⟩ := e1
  refine Ev.aload_n (q := 13) dX3_weigh_12 rfl rfl ?_
  refine gR (q := 16) dX3_weigh_13 gfX3_45 k68 r68_2 rfl rfl ?_
  refine Ev.iload_n (q := 17) dX3_weigh_16 rfl rfl ?_
  refine pI (q := 20) dX3_weigh_17 gfX3_53 k71 rfl rfl ?_
  refine Ev.iconst (q := 21) dX3_weigh_20 ki_0 rfl ?_
  refine istore_n_3 (q := 22) dX3_weigh_21 rfl rfl rfl ?_
  have hT2 : CT (up M1 71 4 (lit : Int)) 71 l ((g (60 + l)).toNat, g (63 + l), lit, decide (g (69 + l) = 1), g (63 + l)) := by
    obtain ⟨⟨q1, q2, q3, q4, q5⟩, q6⟩ := hT1
    refine ⟨?_, ?_, ?_, ?_, ?_⟩
    · rw [up_k _ _ (by decide)]; exact q1
    · rw [up_k _ _ (by decide)]; exact q2
    · rw [up_k _ _ (by decide)]; exact q3
    · rw [up_eq]
    · rw [up_k _ _ (by decide)]; exact q5
  obtain ⟨M2, hM2⟩ : ∃ M2, M2 = up M1 71 4 (lit : Int) := ⟨_, rfl⟩
  have hF2 : Fr sLi m M2 := by rw [hM2]; exact hF1.toLi.up rfl
  rw [← hM2] at hT2 ⊢
  have ql := hI.lift hl
  refine l_weighA (m0 := M2) g l hI hl (hH.keep (fun a h1 h2 => hF2.row a (fun _ => sLi_f (by omega)))) (hN.keep (fun a h1 h2 => hF2.row a (fun _ => sLi_f (by omega)))) (g (60 + l)).toNat lit (by omega) hT2.2.1 (fun M hB hF3 => ?_) (g 3).toNat 0 M2 (by omega) (fun p hp => by omega) (fun _ _ _ => rfl)
  refine Ev.iconst (q := 84) dX3_weigh_83 ki_0 rfl ?_
  refine istore_n_3 (q := 85) dX3_weigh_84 rfl rfl rfl ?_
  refine (l_weighB (m0 := m) g l hI hl hH hN lit 12 0 M (g (60 + l)).toNat (g (63 + l)) lit (decide (g (69 + l) = 1)) (g (63 + l)) (by omega) (hT2.keep (hF3 71 (by decide) (by decide))) (hI.liftOk hl hlit.1 hlit.2) (fun p hp hin => ?_) (hF2.tr (fun a k q => ?_)))
  · rw [bestV_in hI hp hin, hB p (by omega)]
    exact bstL_c 12 _
  · rw [hF3 a (fun z => by rw [z] at q; cases q) (fun z => by rw [z] at q; cases q)]
set_option maxRecDepth 4000 in
theorem p_X3_sumWith {Γ : Gm} {d : Nat} {m : Mem} (g : Row) (l lit : Nat) (hI : HI g) (hl : (l : Int) < g 2) (hH : HouR g m 33) (hN : NowR g m 44) (hlit : litOk g l lit) : Ci Γ (d + 5) MX3_sumWith [rv 68, iv l, iv lit] m (fun r m' => r = sumV g l lit ∧ inB g l lit m' ∧ Fr sLi m m') := by
  refine Ci.of moX3_sumWith rfl rfl (fun hA hM => ?_)
  show Em Γ (d + 5) MX3_sumWith _ 0 [rv 68, iv l, iv lit] [] m
  refine Ev.aload_n (q := 1) dX3_sumWith_0 rfl rfl ?_
  refine Ev.iload_n (q := 2) dX3_sumWith_1 rfl rfl ?_
  refine Ev.iload_n (q := 3) dX3_sumWith_2 rfl rfl ?_
  refine cV2v (q := 6) (d' := d + 4) dX3_sumWith_3 mlX3_98 moX3_weigh mvX3_weigh k68 rfl rfl rfl (Nat.le_refl _) rfl rfl rfl (p_X3_weigh g l lit hI hl hH hN hlit) (fun r1 m1 e1 => ?_)
  obtain ⟨y1, y2, y3, y4⟩ := e1
  refine Ev.aload_n (q := 7) dX3_sumWith_6 rfl rfl ?_
  refine gJ (q := 10) dX3_sumWith_7 gfX3_18 k68 rfl rfl ?_
  refine rJ dX3_sumWith_10 rfl ?_
  exact ⟨y1, y3, y4⟩
set_option maxRecDepth 4000 in
theorem p_X3_lastWith {Γ : Gm} {d : Nat} {m : Mem} (g : Row) (l lit : Nat) (hI : HI g) (hl : (l : Int) < g 2) (hH : HouR g m 33) (hN : NowR g m 44) (hlit : litOk g l lit) : Ci Γ (d + 5) MX3_lastWith [rv 68, iv l, iv lit] m (fun r m' => r = latV g l lit ∧ inB g l lit m' ∧ Fr sLi m m') := by
  refine Ci.of moX3_lastWith rfl rfl (fun hA hM => ?_)
  show Em Γ (d + 5) MX3_lastWith _ 0 [rv 68, iv l, iv lit] [] m
  refine Ev.aload_n (q := 1) dX3_lastWith_0 rfl rfl ?_
  refine Ev.iload_n (q := 2) dX3_lastWith_1 rfl rfl ?_
  refine Ev.iload_n (q := 3) dX3_lastWith_2 rfl rfl ?_
  refine cV2v (q := 6) (d' := d + 4) dX3_lastWith_3 mlX3_98 moX3_weigh mvX3_weigh k68 rfl rfl rfl (Nat.le_refl _) rfl rfl rfl (p_X3_weigh g l lit hI hl hH hN hlit) (fun r1 m1 e1 => ?_)
  obtain ⟨y1, y2, y3, y4⟩ := e1
  refine Ev.aload_n (q := 7) dX3_lastWith_6 rfl rfl ?_
  refine gI (q := 10) dX3_lastWith_7 gfX3_22 k68 rfl rfl ?_
  refine rI dX3_lastWith_10 rfl ?_
  exact ⟨y2, y3, y4⟩
