/-! ===== constructors: laws, tokens, trays, trips ===== -/
set_option maxRecDepth 4000 in
theorem i_X9 {Γ : Gm} {d : Nat} {m : Mem} {o : List (Nat × Nat)} (a : Nat) (ha : a ∈ traC) (hz : ∀ x, a < x → x ≤ a + 1 → ∀ j, m x j = 0) (ho : ∀ p ∈ o, p.1 < a) : Cl Γ (d + 1) MX9_init 1 40 [rv a] (a + 1, opS (a + 1) ((a, 2) :: o)) m (fun v g' m' => g' = (a + 2, opS (a + 2) o) ∧ m' = (up (up m a 0 (-1)) a 1 0)) := by
  obtain ⟨taK, tar, taK2, taN⟩ := traK a ha
  refine Cl.of moX9_init (fun v hv => by simp only [List.mem_cons, List.not_mem_nil, or_false] at hv; subst hv; exact (by decide : (3 : Nat) ≠ 0)) (Nat.le_of_ble_eq_true rfl) ?_
  show Ev Γ (d + 1) MX9_init (1, 40, 0, 0) _ 0 [rv a] [] _ m
  refine Ev.aload_n (q := 1) dX9_init_0 rfl rfl ?_
  refine Ev.objI (q := 4) dX9_init_1 oiX9 (by omega) (Nat.le_of_ble_eq_true rfl) rfl ?_
  refine Ev.aload_n (q := 5) dX9_init_4 rfl rfl ?_
  refine Ev.iconst (q := 6) dX9_init_5 ki_m1 rfl ?_
  refine Ev.putI (q := 9) dX9_init_6 gfX9_9 rfl taK (by show a < a + 1; omega) rfl ?_
  refine Ev.aload_n (q := 10) dX9_init_9 rfl rfl ?_
  refine Ev.iconst (q := 11) dX9_init_10 ki_0 rfl ?_
  refine Ev.putI (q := 14) dX9_init_11 gfX9_15 rfl taK (by show a < a + 1; omega) rfl ?_
  refine Ev.aload_n (q := 15) dX9_init_14 rfl rfl ?_
  refine Ev.bipush (q := 17) dX9_init_15 kb_40 rfl ?_
  refine Ev.newaO (q := 19) (n := a + 1) dX9_init_17 ka_long taK2 (by decide) rfl rfl (by decide) (fun j => by (try simp (disch := omega) only [up_o]); exact hz (a + 1) (by omega) (by omega) j) (by decide) (by decide) rfl ?_
  refine Ev.putO (q := 22) (n := a + 2) (o := o) dX9_init_19 gfX9_18 rfl taK (by omega) tar rfl (fun C T N h => by cases (ck9.1.symm.trans h); rfl) (nin_lo ho (Nat.le_refl _)) rfl ?_
  refine Ev.vret dX9_init_22 rfl ⟨by decide, by decide⟩ ?_
  exact ⟨rfl, rfl⟩
set_option maxRecDepth 4000 in
theorem i_X2 {Γ : Gm} {d : Nat} {m : Mem} {o : List (Nat × Nat)} (a : Nat) (ha : a ∈ lawC) (hz : ∀ x, a < x → x ≤ a + 3 → ∀ j, m x j = 0) (ho : ∀ p ∈ o, p.1 < a) : Cl Γ (d + 1) MX2_init 3 936 [rv a] (a + 1, opS (a + 1) ((a, 2) :: (a, 3) :: (a, 5) :: o)) m (fun v g' m' => g' = (a + 4, opS (a + 4) o) ∧ m' = (up (up (up (up m a 0 0) a 1 0) a 4 0) a 6 0)) := by
  obtain ⟨lwK, lwr2, lwr3, lwr5, lwK1, lwK2, lwK3, lwN⟩ := lawK a ha
  refine Cl.of moX2_init (fun v hv => by simp only [List.mem_cons, List.not_mem_nil, or_false] at hv; subst hv; exact (by decide : (3 : Nat) ≠ 0)) (Nat.le_of_ble_eq_true rfl) ?_
  show Ev Γ (d + 1) MX2_init (3, 936, 0, 0) _ 0 [rv a] [] _ m
  refine Ev.aload_n (q := 1) dX2_init_0 rfl rfl ?_
  refine Ev.objI (q := 4) dX2_init_1 oiX2 (by omega) (Nat.le_of_ble_eq_true rfl) rfl ?_
  refine Ev.aload_n (q := 5) dX2_init_4 rfl rfl ?_
  refine Ev.iconst (q := 6) dX2_init_5 ki_0 rfl ?_
  refine Ev.putZ (q := 9) dX2_init_6 gfX2_9 rfl lwK (by show a < a + 1; omega) (Or.inl rfl) rfl ?_
  refine Ev.aload_n (q := 10) dX2_init_9 rfl rfl ?_
  refine Ev.iconst (q := 11) dX2_init_10 ki_0 rfl ?_
  refine Ev.putI (q := 14) dX2_init_11 gfX2_15 rfl lwK (by show a < a + 1; omega) rfl ?_
  refine Ev.aload_n (q := 15) dX2_init_14 rfl rfl ?_
  refine Ev.iconst (q := 16) dX2_init_15 ki_4 rfl ?_
  refine Ev.newaO (q := 18) (n := a + 1) dX2_init_16 ka_int lwK1 (by decide) rfl rfl (by decide) (fun j => by (try simp (disch := omega) only [up_o]); exact hz (a + 1) (by omega) (by omega) j) (by decide) (by decide) rfl ?_
  refine Ev.putO (q := 21) (n := a + 2) (o := (a, 3) :: (a, 5) :: o) dX2_init_18 gfX2_19 rfl lwK (by omega) lwr2 rfl (fun C T N h => by cases (ck2.1.symm.trans h); rfl) (nin_cons (Or.inr (by decide)) (nin_cons (Or.inr (by decide)) (nin_lo ho (Nat.le_refl _)))) rfl ?_
  refine Ev.aload_n (q := 22) dX2_init_21 rfl rfl ?_
  refine Ev.sipush (q := 25) dX2_init_22 kh_900 rfl ?_
  refine Ev.newaO (q := 27) (n := a + 2) dX2_init_25 ka_int lwK2 (by decide) rfl rfl (by decide) (fun j => by (try simp (disch := omega) only [up_o]); exact hz (a + 2) (by omega) (by omega) j) (by decide) (by decide) rfl ?_
  refine Ev.putO (q := 30) (n := a + 3) (o := (a, 5) :: o) dX2_init_27 gfX2_23 rfl lwK (by omega) lwr3 rfl (fun C T N h => by cases (ck2.1.symm.trans h); rfl) (nin_cons (Or.inr (by decide)) (nin_lo ho (Nat.le_refl _))) rfl ?_
  refine Ev.aload_n (q := 31) dX2_init_30 rfl rfl ?_
  refine Ev.iconst (q := 32) dX2_init_31 ki_0 rfl ?_
  refine Ev.putI (q := 35) dX2_init_32 gfX2_26 rfl lwK (by show a < a + 3; omega) rfl ?_
  refine Ev.aload_n (q := 36) dX2_init_35 rfl rfl ?_
  refine Ev.bipush (q := 38) dX2_init_36 kb_32 rfl ?_
  refine Ev.newaO (q := 40) (n := a + 3) dX2_init_38 ka_int lwK3 (by decide) rfl rfl (by decide) (fun j => by (try simp (disch := omega) only [up_o]); exact hz (a + 3) (by omega) (by omega) j) (by decide) (by decide) rfl ?_
  refine Ev.putO (q := 43) (n := a + 4) (o := o) dX2_init_40 gfX2_29 rfl lwK (by omega) lwr5 rfl (fun C T N h => by cases (ck2.1.symm.trans h); rfl) (nin_lo ho (Nat.le_refl _)) rfl ?_
  refine Ev.aload_n (q := 44) dX2_init_43 rfl rfl ?_
  refine Ev.iconst (q := 45) dX2_init_44 ki_0 rfl ?_
  refine Ev.putI (q := 48) dX2_init_45 gfX2_32 rfl lwK (by show a < a + 4; omega) rfl ?_
  refine Ev.vret dX2_init_48 rfl ⟨by decide, by decide⟩ ?_
  exact ⟨rfl, rfl⟩
set_option maxRecDepth 4000 in
theorem i_X10 {Γ : Gm} {d : Nat} {m : Mem} {o : List (Nat × Nat)} (a : Nat) (ha : a ∈ triC) (hz : ∀ x, a < x → x ≤ a + 0 → ∀ j, m x j = 0) (ho : ∀ p ∈ o, p.1 < a) : Cl Γ (d + 1) MX10_init 0 0 [rv a, rv 33] (a + 1, opS (a + 1) ((a, 0) :: o)) m (fun v g' m' => g' = (a + 1, opS (a + 1) o) ∧ m' = (up (up (up (up (up (up m a 1 0) a 2 0) a 3 0) a 4 0) a 5 1) a 6 0)) := by
  obtain ⟨tcK, tcr, tcN⟩ := triK a ha
  refine Cl.of moX10_init (fun v hv => by simp only [List.mem_cons, List.not_mem_nil, or_false] at hv; rcases hv with rfl | rfl <;> exact (by decide : (3 : Nat) ≠ 0)) (Nat.le_of_ble_eq_true rfl) ?_
  show Ev Γ (d + 1) MX10_init (0, 0, 0, 0) _ 0 [rv a, rv 33] [] _ m
  refine Ev.aload_n (q := 1) dX10_init_0 rfl rfl ?_
  refine Ev.objI (q := 4) dX10_init_1 oiX10 (by omega) (Nat.le_of_ble_eq_true rfl) rfl ?_
  refine Ev.aload_n (q := 5) dX10_init_4 rfl rfl ?_
  refine Ev.iconst (q := 6) dX10_init_5 ki_0 rfl ?_
  refine Ev.putI (q := 9) dX10_init_6 gfX10_9 rfl tcK (by show a < a + 1; omega) rfl ?_
  refine Ev.aload_n (q := 10) dX10_init_9 rfl rfl ?_
  refine Ev.iconst (q := 11) dX10_init_10 ki_0 rfl ?_
  refine Ev.putI (q := 14) dX10_init_11 gfX10_15 rfl tcK (by show a < a + 1; omega) rfl ?_
  refine Ev.aload_n (q := 15) dX10_init_14 rfl rfl ?_
  refine Ev.iconst (q := 16) dX10_init_15 ki_0 rfl ?_
  refine Ev.putI (q := 19) dX10_init_16 gfX10_18 rfl tcK (by show a < a + 1; omega) rfl ?_
  refine Ev.aload_n (q := 20) dX10_init_19 rfl rfl ?_
  refine Ev.iconst (q := 21) dX10_init_20 ki_0 rfl ?_
  refine Ev.putI (q := 24) dX10_init_21 gfX10_21 rfl tcK (by show a < a + 1; omega) rfl ?_
  refine Ev.aload_n (q := 25) dX10_init_24 rfl rfl ?_
  refine Ev.iconst (q := 26) dX10_init_25 ki_1 rfl ?_
  refine Ev.putI (q := 29) dX10_init_26 gfX10_24 rfl tcK (by show a < a + 1; omega) rfl ?_
  refine Ev.aload_n (q := 30) dX10_init_29 rfl rfl ?_
  refine Ev.iconst (q := 31) dX10_init_30 ki_0 rfl ?_
  refine Ev.putI (q := 34) dX10_init_31 gfX10_27 rfl tcK (by show a < a + 1; omega) rfl ?_
  refine Ev.aload_n (q := 35) dX10_init_34 rfl rfl ?_
  refine Ev.aload_n (q := 36) dX10_init_35 rfl rfl ?_
  refine Ev.putO (q := 39) (n := a + 1) (o := o) dX10_init_36 gfX10_30 rfl tcK (by omega) tcr rfl (fun C T N h => by cases (ck10.1.symm.trans h); rfl) (nin_lo ho (Nat.le_refl _)) rfl ?_
  refine Ev.vret dX10_init_39 rfl ⟨by decide, by decide⟩ ?_
  exact ⟨rfl, rfl⟩
