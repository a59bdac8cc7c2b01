/-! ===== constructors: tokens; what an object opens ===== -/
theorem isR_in {a ci y : Nat} (hK : K a = (0, ci)) (h : isR a y = true) : y ∈ (List.range (nfd ci)).filter (fun y => fty ci y == 8) := by
  unfold isR at h
  rw [hK] at h
  simp at h
  refine List.mem_filter.mpr ⟨List.mem_range.mpr ?_, by simp [h]⟩
  apply Classical.byContradiction
  intro z
  unfold fty at h
  rw [List.getD_eq_getElem?_getD (l := Fl.getD ci []), List.getElem?_eq_none (by unfold nfd at z; omega)] at h
  exact absurd h (by decide)
theorem isR_row {a c n y : Nat} (hK : K a = (c, n)) (hc : 5 ≤ c) (h : isR a y = true) : y < n := by
  unfold isR at h
  rw [hK] at h
  simp at h
  rcases h with h | h
  · omega
  · exact h.2
set_option maxRecDepth 4000 in
theorem i_X8 {Γ : Gm} {d : Nat} {m : Mem} {o : List (Nat × Nat)} (a : Nat) (ha : a ∈ [22]) (hz : ∀ x, a < x → x ≤ a + 1 → ∀ j, m x j = 0) (ho : ∀ p ∈ o, p.1 < a) : Cl Γ (d + 1) MX8_init 1 0 [rv a] (a + 1, opS (a + 1) (o)) m (fun v g' m' => g' = (a + 2, opS (a + 2) o) ∧ m' = (up (up (up (up (up (up m a 0 (((a + 1 : Nat) : Int))) a 1 0) a 2 0) a 3 0) a 4 0) a 5 0)) := by
  have e22 := List.mem_singleton.mp ha
  have tkK : K a = (0, 8) := by rw [e22]; decide +kernel
  have tkK1 : K (a + 1) = (2, 0) := by rw [e22]; decide +kernel
  refine Cl.of moX8_init (fun v hv => by simp only [List.mem_cons, List.not_mem_nil, or_false] at hv; subst hv; exact (by decide : (3 : Nat) ≠ 0)) (Nat.le_of_ble_eq_true rfl) ?_
  show Ev Γ (d + 1) MX8_init (1, 0, 0, 0) _ 0 [rv a] [] _ m
  refine Ev.aload_n (q := 1) dX8_init_0 rfl rfl ?_
  refine Ev.objI (q := 4) dX8_init_1 oiX8 (by omega) (Nat.le_of_ble_eq_true rfl) rfl ?_
  refine Ev.aload_n (q := 5) dX8_init_4 rfl rfl ?_
  refine Ev.iconst (q := 6) dX8_init_5 ki_0 rfl ?_
  refine Ev.newaO (q := 8) (n := a + 1) dX8_init_6 ka_byte tkK1 (by decide) rfl rfl (by decide) (fun j => by (try simp (disch := omega) only [up_o]); exact hz (a + 1) (by omega) (by omega) j) (by decide) (by decide) rfl ?_
  refine Ev.putD (q := 11) dX8_init_8 gfX8_7 rfl tkK (by show a < a + 2; omega) (by omega) rfl ?_
  refine Ev.aload_n (q := 12) dX8_init_11 rfl rfl ?_
  refine Ev.iconst (q := 13) dX8_init_12 ki_0 rfl ?_
  refine Ev.putI (q := 16) dX8_init_13 gfX8_13 rfl tkK (by show a < a + 2; omega) rfl ?_
  refine Ev.aload_n (q := 17) dX8_init_16 rfl rfl ?_
  refine Ev.iconst (q := 18) dX8_init_17 ki_0 rfl ?_
  refine Ev.putI (q := 21) dX8_init_18 gfX8_17 rfl tkK (by show a < a + 2; omega) rfl ?_
  refine Ev.aload_n (q := 22) dX8_init_21 rfl rfl ?_
  refine Ev.iconst (q := 23) dX8_init_22 ki_0 rfl ?_
  refine Ev.putI (q := 26) dX8_init_23 gfX8_20 rfl tkK (by show a < a + 2; omega) rfl ?_
  refine Ev.aload_n (q := 27) dX8_init_26 rfl rfl ?_
  refine Ev.iconst (q := 28) dX8_init_27 ki_0 rfl ?_
  refine Ev.putI (q := 31) dX8_init_28 gfX8_23 rfl tkK (by show a < a + 2; omega) rfl ?_
  refine Ev.aload_n (q := 32) dX8_init_31 rfl rfl ?_
  refine Ev.iconst (q := 33) dX8_init_32 ki_0 rfl ?_
  refine Ev.putI (q := 36) dX8_init_33 gfX8_26 rfl tkK (by show a < a + 2; omega) rfl ?_
  refine Ev.vret dX8_init_36 rfl ⟨by decide, by decide⟩ ?_
  exact ⟨rfl, rfl⟩
