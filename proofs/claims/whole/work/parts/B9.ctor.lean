/-! ===== constructors ===== -/
set_option maxRecDepth 4000 in
theorem i_X4 {Γ : Gm} {d : Nat} {m : Mem} {o : List (Nat × Nat)} (a : Nat) (ha : a ∈ nowC) (hz : ∀ x, a < x → x ≤ a + 7 → ∀ j, m x j = 0) (ho : ∀ p ∈ o, p.1 < a) : Cl Γ (d + 1) MX4_init 7 36 [rv a] (a + 1, opS (a + 1) ((a, 0) :: (a, 1) :: (a, 2) :: (a, 3) :: (a, 4) :: (a, 5) :: (a, 6) :: o)) m (fun v g' m' => g' = (a + 8, opS (a + 8) o) ∧ m' = m) := by
  obtain ⟨nwK, ⟨nwr0, nwr1, nwr2, nwr3, nwr4, nwr5, nwr6⟩, nwK0, nwK1, nwK2, nwK3, nwK4, nwK5, nwK6, nwN⟩ := nowK a ha
  refine Cl.of moX4_init (fun v hv => by rw [List.mem_singleton.mp hv]; exact (by decide : (3 : Nat) ≠ 0)) (Nat.le_of_ble_eq_true rfl) ?_
  show Ev Γ (d + 1) MX4_init (7, 36, 0, 0) _ 0 [rv a] [] _ m
  refine Ev.aload_n (q := 1) dX4_init_0 rfl rfl ?_
  refine Ev.objI (q := 4) dX4_init_1 oiX4 (by omega) (Nat.le_of_ble_eq_true rfl) rfl ?_
  refine Ev.aload_n (q := 5) dX4_init_4 rfl rfl ?_
  refine Ev.iconst (q := 6) dX4_init_5 ki_3 rfl ?_
  refine Ev.newaO (q := 8) (n := a + 1) dX4_init_6 ka_int nwK0 (by decide) rfl rfl (by decide) (fun j => by (try simp (disch := omega) only [up_o]); exact hz (a + 1) (by omega) (by omega) j) (by decide) (by decide) rfl ?_
  refine Ev.putO (q := 11) (n := a + 2) (o := (a, 1) :: (a, 2) :: (a, 3) :: (a, 4) :: (a, 5) :: (a, 6) :: o) dX4_init_8 gfX4_9 rfl nwK (by omega) nwr0 rfl (fun C T N h => by cases (ck4.1.symm.trans h); rfl) (nin_cons (Or.inr (by decide)) (nin_cons (Or.inr (by decide)) (nin_cons (Or.inr (by decide)) (nin_cons (Or.inr (by decide)) (nin_cons (Or.inr (by decide)) (nin_cons (Or.inr (by decide)) (nin_lo ho (Nat.le_refl _)))))))) rfl ?_
  refine Ev.aload_n (q := 12) dX4_init_11 rfl rfl ?_
  refine Ev.iconst (q := 13) dX4_init_12 ki_3 rfl ?_
  refine Ev.newaO (q := 15) (n := a + 2) dX4_init_13 ka_int nwK1 (by decide) rfl rfl (by decide) (fun j => by (try simp (disch := omega) only [up_o]); exact hz (a + 2) (by omega) (by omega) j) (by decide) (by decide) rfl ?_
  refine Ev.putO (q := 18) (n := a + 3) (o := (a, 2) :: (a, 3) :: (a, 4) :: (a, 5) :: (a, 6) :: o) dX4_init_15 gfX4_15 rfl nwK (by omega) nwr1 rfl (fun C T N h => by cases (ck4.1.symm.trans h); rfl) (nin_cons (Or.inr (by decide)) (nin_cons (Or.inr (by decide)) (nin_cons (Or.inr (by decide)) (nin_cons (Or.inr (by decide)) (nin_cons (Or.inr (by decide)) (nin_lo ho (Nat.le_refl _))))))) rfl ?_
  refine Ev.aload_n (q := 19) dX4_init_18 rfl rfl ?_
  refine Ev.iconst (q := 20) dX4_init_19 ki_3 rfl ?_
  refine Ev.newaO (q := 22) (n := a + 3) dX4_init_20 ka_int nwK2 (by decide) rfl rfl (by decide) (fun j => by (try simp (disch := omega) only [up_o]); exact hz (a + 3) (by omega) (by omega) j) (by decide) (by decide) rfl ?_
  refine Ev.putO (q := 25) (n := a + 4) (o := (a, 3) :: (a, 4) :: (a, 5) :: (a, 6) :: o) dX4_init_22 gfX4_18 rfl nwK (by omega) nwr2 rfl (fun C T N h => by cases (ck4.1.symm.trans h); rfl) (nin_cons (Or.inr (by decide)) (nin_cons (Or.inr (by decide)) (nin_cons (Or.inr (by decide)) (nin_cons (Or.inr (by decide)) (nin_lo ho (Nat.le_refl _)))))) rfl ?_
  refine Ev.aload_n (q := 26) dX4_init_25 rfl rfl ?_
  refine Ev.iconst (q := 27) dX4_init_26 ki_3 rfl ?_
  refine Ev.newaO (q := 29) (n := a + 4) dX4_init_27 ka_int nwK3 (by decide) rfl rfl (by decide) (fun j => by (try simp (disch := omega) only [up_o]); exact hz (a + 4) (by omega) (by omega) j) (by decide) (by decide) rfl ?_
  refine Ev.putO (q := 32) (n := a + 5) (o := (a, 4) :: (a, 5) :: (a, 6) :: o) dX4_init_29 gfX4_21 rfl nwK (by omega) nwr3 rfl (fun C T N h => by cases (ck4.1.symm.trans h); rfl) (nin_cons (Or.inr (by decide)) (nin_cons (Or.inr (by decide)) (nin_cons (Or.inr (by decide)) (nin_lo ho (Nat.le_refl _))))) rfl ?_
  refine Ev.aload_n (q := 33) dX4_init_32 rfl rfl ?_
  refine Ev.bipush (q := 35) dX4_init_33 kb_8 rfl ?_
  refine Ev.newaO (q := 37) (n := a + 5) dX4_init_35 ka_int nwK4 (by decide) rfl rfl (by decide) (fun j => by (try simp (disch := omega) only [up_o]); exact hz (a + 5) (by omega) (by omega) j) (by decide) (by decide) rfl ?_
  refine Ev.putO (q := 40) (n := a + 6) (o := (a, 5) :: (a, 6) :: o) dX4_init_37 gfX4_24 rfl nwK (by omega) nwr4 rfl (fun C T N h => by cases (ck4.1.symm.trans h); rfl) (nin_cons (Or.inr (by decide)) (nin_cons (Or.inr (by decide)) (nin_lo ho (Nat.le_refl _)))) rfl ?_
  refine Ev.aload_n (q := 41) dX4_init_40 rfl rfl ?_
  refine Ev.bipush (q := 43) dX4_init_41 kb_8 rfl ?_
  refine Ev.newaO (q := 45) (n := a + 6) dX4_init_43 ka_int nwK5 (by decide) rfl rfl (by decide) (fun j => by (try simp (disch := omega) only [up_o]); exact hz (a + 6) (by omega) (by omega) j) (by decide) (by decide) rfl ?_
  refine Ev.putO (q := 48) (n := a + 7) (o := (a, 6) :: o) dX4_init_45 gfX4_27 rfl nwK (by omega) nwr5 rfl (fun C T N h => by cases (ck4.1.symm.trans h); rfl) (nin_cons (Or.inr (by decide)) (nin_lo ho (Nat.le_refl _))) rfl ?_
  refine Ev.aload_n (q := 49) dX4_init_48 rfl rfl ?_
  refine Ev.bipush (q := 51) dX4_init_49 kb_8 rfl ?_
  refine Ev.newaO (q := 53) (n := a + 7) dX4_init_51 ka_int nwK6 (by decide) rfl rfl (by decide) (fun j => by (try simp (disch := omega) only [up_o]); exact hz (a + 7) (by omega) (by omega) j) (by decide) (by decide) rfl ?_
  refine Ev.putO (q := 56) (n := a + 8) (o := o) dX4_init_53 gfX4_30 rfl nwK (by omega) nwr6 rfl (fun C T N h => by cases (ck4.1.symm.trans h); rfl) (nin_lo ho (Nat.le_refl _)) rfl ?_
  refine Ev.vret dX4_init_56 rfl ⟨by decide, by decide⟩ ?_
  exact ⟨rfl, rfl⟩
set_option maxRecDepth 4000 in
theorem i_X1 {Γ : Gm} {d : Nat} {m : Mem} {o : List (Nat × Nat)} (a : Nat) (ha : a ∈ houC) (hz : ∀ x, a < x → x ≤ a + 10 → ∀ j, m x j = 0) (ho : ∀ p ∈ o, p.1 < a) : Cl Γ (d + 1) MX1_init 10 767 [rv a] (a + 1, opS (a + 1) ((a, 4) :: (a, 5) :: (a, 6) :: (a, 7) :: (a, 8) :: (a, 9) :: (a, 10) :: (a, 11) :: (a, 12) :: (a, 13) :: o)) m (fun v g' m' => g' = (a + 11, opS (a + 11) o) ∧ m' = up (up (up (up m a 0 2) a 1 0) a 2 0) a 3 0) := by
  obtain ⟨hoK, ⟨hor0, hor1, hor2, hor3, hor4, hor5, hor6, hor7, hor8, hor9⟩, hoK0, hoK1, hoK2, hoK3, hoK4, hoK5, hoK6, hoK7, hoK8, hoK9, hoN⟩ := houK a ha
  refine Cl.of moX1_init (fun v hv => by rw [List.mem_singleton.mp hv]; exact (by decide : (3 : Nat) ≠ 0)) (Nat.le_of_ble_eq_true rfl) ?_
  show Ev Γ (d + 1) MX1_init (10, 767, 0, 0) _ 0 [rv a] [] _ m
  refine Ev.aload_n (q := 1) dX1_init_0 rfl rfl ?_
  refine Ev.objI (q := 4) dX1_init_1 oiX1 (by omega) (Nat.le_of_ble_eq_true rfl) rfl ?_
  refine Ev.aload_n (q := 5) dX1_init_4 rfl rfl ?_
  refine Ev.iconst (q := 6) dX1_init_5 ki_2 rfl ?_
  refine Ev.putI (q := 9) dX1_init_6 gfX1_9 rfl hoK (by show a < a + 1; omega) rfl ?_
  refine Ev.aload_n (q := 10) dX1_init_9 rfl rfl ?_
  refine Ev.iconst (q := 11) dX1_init_10 ki_0 rfl ?_
  refine Ev.putI (q := 14) dX1_init_11 gfX1_15 rfl hoK (by show a < a + 1; omega) rfl ?_
  refine Ev.aload_n (q := 15) dX1_init_14 rfl rfl ?_
  refine Ev.iconst (q := 16) dX1_init_15 ki_0 rfl ?_
  refine Ev.putI (q := 19) dX1_init_16 gfX1_18 rfl hoK (by show a < a + 1; omega) rfl ?_
  refine Ev.aload_n (q := 20) dX1_init_19 rfl rfl ?_
  refine Ev.iconst (q := 21) dX1_init_20 ki_0 rfl ?_
  refine Ev.putI (q := 24) dX1_init_21 gfX1_21 rfl hoK (by show a < a + 1; omega) rfl ?_
  refine Ev.aload_n (q := 25) dX1_init_24 rfl rfl ?_
  refine Ev.bipush (q := 27) dX1_init_25 kb_12 rfl ?_
  refine Ev.newaO (q := 29) (n := a + 1) dX1_init_27 ka_int hoK0 (by decide) rfl rfl (by decide) (fun j => by (try simp (disch := omega) only [up_o]); exact hz (a + 1) (by omega) (by omega) j) (by decide) (by decide) rfl ?_
  refine Ev.putO (q := 32) (n := a + 2) (o := (a, 5) :: (a, 6) :: (a, 7) :: (a, 8) :: (a, 9) :: (a, 10) :: (a, 11) :: (a, 12) :: (a, 13) :: o) dX1_init_29 gfX1_24 rfl hoK (by omega) hor0 rfl (fun C T N h => by cases (ck1.1.symm.trans h); rfl) (nin_cons (Or.inr (by decide)) (nin_cons (Or.inr (by decide)) (nin_cons (Or.inr (by decide)) (nin_cons (Or.inr (by decide)) (nin_cons (Or.inr (by decide)) (nin_cons (Or.inr (by decide)) (nin_cons (Or.inr (by decide)) (nin_cons (Or.inr (by decide)) (nin_cons (Or.inr (by decide)) (nin_lo ho (Nat.le_refl _))))))))))) rfl ?_
  refine Ev.aload_n (q := 33) dX1_init_32 rfl rfl ?_
  refine Ev.iconst (q := 34) dX1_init_33 ki_3 rfl ?_
  refine Ev.newaO (q := 36) (n := a + 2) dX1_init_34 ka_int hoK1 (by decide) rfl rfl (by decide) (fun j => by (try simp (disch := omega) only [up_o]); exact hz (a + 2) (by omega) (by omega) j) (by decide) (by decide) rfl ?_
  refine Ev.putO (q := 39) (n := a + 3) (o := (a, 6) :: (a, 7) :: (a, 8) :: (a, 9) :: (a, 10) :: (a, 11) :: (a, 12) :: (a, 13) :: o) dX1_init_36 gfX1_28 rfl hoK (by omega) hor1 rfl (fun C T N h => by cases (ck1.1.symm.trans h); rfl) (nin_cons (Or.inr (by decide)) (nin_cons (Or.inr (by decide)) (nin_cons (Or.inr (by decide)) (nin_cons (Or.inr (by decide)) (nin_cons (Or.inr (by decide)) (nin_cons (Or.inr (by decide)) (nin_cons (Or.inr (by decide)) (nin_cons (Or.inr (by decide)) (nin_lo ho (Nat.le_refl _)))))))))) rfl ?_
  refine Ev.aload_n (q := 40) dX1_init_39 rfl rfl ?_
  refine Ev.bipush (q := 42) dX1_init_40 kb_8 rfl ?_
  refine Ev.newaO (q := 44) (n := a + 3) dX1_init_42 ka_int hoK2 (by decide) rfl rfl (by decide) (fun j => by (try simp (disch := omega) only [up_o]); exact hz (a + 3) (by omega) (by omega) j) (by decide) (by decide) rfl ?_
  refine Ev.putO (q := 47) (n := a + 4) (o := (a, 7) :: (a, 8) :: (a, 9) :: (a, 10) :: (a, 11) :: (a, 12) :: (a, 13) :: o) dX1_init_44 gfX1_31 rfl hoK (by omega) hor2 rfl (fun C T N h => by cases (ck1.1.symm.trans h); rfl) (nin_cons (Or.inr (by decide)) (nin_cons (Or.inr (by decide)) (nin_cons (Or.inr (by decide)) (nin_cons (Or.inr (by decide)) (nin_cons (Or.inr (by decide)) (nin_cons (Or.inr (by decide)) (nin_cons (Or.inr (by decide)) (nin_lo ho (Nat.le_refl _))))))))) rfl ?_
  refine Ev.aload_n (q := 48) dX1_init_47 rfl rfl ?_
  refine Ev.bipush (q := 50) dX1_init_48 kb_8 rfl ?_
  refine Ev.newaO (q := 52) (n := a + 4) dX1_init_50 ka_int hoK3 (by decide) rfl rfl (by decide) (fun j => by (try simp (disch := omega) only [up_o]); exact hz (a + 4) (by omega) (by omega) j) (by decide) (by decide) rfl ?_
  refine Ev.putO (q := 55) (n := a + 5) (o := (a, 8) :: (a, 9) :: (a, 10) :: (a, 11) :: (a, 12) :: (a, 13) :: o) dX1_init_52 gfX1_34 rfl hoK (by omega) hor3 rfl (fun C T N h => by cases (ck1.1.symm.trans h); rfl) (nin_cons (Or.inr (by decide)) (nin_cons (Or.inr (by decide)) (nin_cons (Or.inr (by decide)) (nin_cons (Or.inr (by decide)) (nin_cons (Or.inr (by decide)) (nin_cons (Or.inr (by decide)) (nin_lo ho (Nat.le_refl _)))))))) rfl ?_
  refine Ev.aload_n (q := 56) dX1_init_55 rfl rfl ?_
  refine Ev.bipush (q := 58) dX1_init_56 kb_8 rfl ?_
  refine Ev.newaO (q := 60) (n := a + 5) dX1_init_58 ka_int hoK4 (by decide) rfl rfl (by decide) (fun j => by (try simp (disch := omega) only [up_o]); exact hz (a + 5) (by omega) (by omega) j) (by decide) (by decide) rfl ?_
  refine Ev.putO (q := 63) (n := a + 6) (o := (a, 9) :: (a, 10) :: (a, 11) :: (a, 12) :: (a, 13) :: o) dX1_init_60 gfX1_37 rfl hoK (by omega) hor4 rfl (fun C T N h => by cases (ck1.1.symm.trans h); rfl) (nin_cons (Or.inr (by decide)) (nin_cons (Or.inr (by decide)) (nin_cons (Or.inr (by decide)) (nin_cons (Or.inr (by decide)) (nin_cons (Or.inr (by decide)) (nin_lo ho (Nat.le_refl _))))))) rfl ?_
  refine Ev.aload_n (q := 64) dX1_init_63 rfl rfl ?_
  refine Ev.bipush (q := 66) dX1_init_64 kb_8 rfl ?_
  refine Ev.newaO (q := 68) (n := a + 6) dX1_init_66 ka_int hoK5 (by decide) rfl rfl (by decide) (fun j => by (try simp (disch := omega) only [up_o]); exact hz (a + 6) (by omega) (by omega) j) (by decide) (by decide) rfl ?_
  refine Ev.putO (q := 71) (n := a + 7) (o := (a, 10) :: (a, 11) :: (a, 12) :: (a, 13) :: o) dX1_init_68 gfX1_40 rfl hoK (by omega) hor5 rfl (fun C T N h => by cases (ck1.1.symm.trans h); rfl) (nin_cons (Or.inr (by decide)) (nin_cons (Or.inr (by decide)) (nin_cons (Or.inr (by decide)) (nin_cons (Or.inr (by decide)) (nin_lo ho (Nat.le_refl _)))))) rfl ?_
  refine Ev.aload_n (q := 72) dX1_init_71 rfl rfl ?_
  refine Ev.bipush (q := 74) dX1_init_72 kb_96 rfl ?_
  refine Ev.newaO (q := 76) (n := a + 7) dX1_init_74 ka_int hoK6 (by decide) rfl rfl (by decide) (fun j => by (try simp (disch := omega) only [up_o]); exact hz (a + 7) (by omega) (by omega) j) (by decide) (by decide) rfl ?_
  refine Ev.putO (q := 79) (n := a + 8) (o := (a, 11) :: (a, 12) :: (a, 13) :: o) dX1_init_76 gfX1_43 rfl hoK (by omega) hor6 rfl (fun C T N h => by cases (ck1.1.symm.trans h); rfl) (nin_cons (Or.inr (by decide)) (nin_cons (Or.inr (by decide)) (nin_cons (Or.inr (by decide)) (nin_lo ho (Nat.le_refl _))))) rfl ?_
  refine Ev.aload_n (q := 80) dX1_init_79 rfl rfl ?_
  refine Ev.bipush (q := 82) dX1_init_80 kb_96 rfl ?_
  refine Ev.newaO (q := 84) (n := a + 8) dX1_init_82 ka_int hoK7 (by decide) rfl rfl (by decide) (fun j => by (try simp (disch := omega) only [up_o]); exact hz (a + 8) (by omega) (by omega) j) (by decide) (by decide) rfl ?_
  refine Ev.putO (q := 87) (n := a + 9) (o := (a, 12) :: (a, 13) :: o) dX1_init_84 gfX1_46 rfl hoK (by omega) hor7 rfl (fun C T N h => by cases (ck1.1.symm.trans h); rfl) (nin_cons (Or.inr (by decide)) (nin_cons (Or.inr (by decide)) (nin_lo ho (Nat.le_refl _)))) rfl ?_
  refine Ev.aload_n (q := 88) dX1_init_87 rfl rfl ?_
  refine Ev.bipush (q := 90) dX1_init_88 kb_96 rfl ?_
  refine Ev.newaO (q := 92) (n := a + 9) dX1_init_90 ka_int hoK8 (by decide) rfl rfl (by decide) (fun j => by (try simp (disch := omega) only [up_o]); exact hz (a + 9) (by omega) (by omega) j) (by decide) (by decide) rfl ?_
  refine Ev.putO (q := 95) (n := a + 10) (o := (a, 13) :: o) dX1_init_92 gfX1_49 rfl hoK (by omega) hor8 rfl (fun C T N h => by cases (ck1.1.symm.trans h); rfl) (nin_cons (Or.inr (by decide)) (nin_lo ho (Nat.le_refl _))) rfl ?_
  refine Ev.aload_n (q := 96) dX1_init_95 rfl rfl ?_
  refine Ev.sipush (q := 99) dX1_init_96 kh_432 rfl ?_
  refine Ev.newaO (q := 101) (n := a + 10) dX1_init_99 ka_int hoK9 (by decide) rfl rfl (by decide) (fun j => by (try simp (disch := omega) only [up_o]); exact hz (a + 10) (by omega) (by omega) j) (by decide) (by decide) rfl ?_
  refine Ev.putO (q := 104) (n := a + 11) (o := o) dX1_init_101 gfX1_52 rfl hoK (by omega) hor9 rfl (fun C T N h => by cases (ck1.1.symm.trans h); rfl) (nin_lo ho (Nat.le_refl _)) rfl ?_
  refine Ev.vret dX1_init_104 rfl ⟨by decide, by decide⟩ ?_
  exact ⟨rfl, rfl⟩
