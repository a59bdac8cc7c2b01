/-! ===== the law: its beginning ===== -/
theorem HI_f0R : HI f0R := by
  have e : ∀ j, j ≠ 1 → f0R j = 0 := fun j hj => by unfold f0R; rw [if_neg hj]
  have e1 : f0R 1 = 2 := by unfold f0R; rw [if_pos rfl]
  refine ⟨by rw [e1]; omega, by rw [e 2 (by decide)]; omega, by rw [e 3 (by decide)]; omega, Or.inl (e 4 (by decide)), Or.inl (e 5 (by decide)), fun l hl => ?_, fun p hp => ?_, fun f hf => ?_⟩
  · rw [e 2 (by decide)] at hl; omega
  · rw [e 3 (by decide)] at hp; omega
  · rw [e _ (by omega)]; omega
theorem SR_init {m1 m2 : Mem} (h1 : I11 m1) (h2 : I12 m2) (e : ∀ x, x < 211 → m2 x = m1 x) : SR m2 := by
  obtain ⟨⟨⟨⟨a1, a2, a3⟩, b0, b1, b2, b3, b4⟩, c7, c8, c64⟩, tr⟩ := h1
  obtain ⟨d5, d13, d14, d12, d213, d220, d221⟩ := h2
  have z : ∀ j, j ≠ 1 → f0R j = 0 := fun j hj => by unfold f0R; rw [if_neg hj]
  have z1 : f0R 1 = 2 := by unfold f0R; rw [if_pos rfl]
  have ag : Ag f0R (m2 212) := fun j _ q => d12 j q
  have hH : HouR f0R m2 33 := by
    refine ⟨⟨by rw [e 33 (by omega), z1]; exact b0, by rw [e 33 (by omega), z 0 (by decide)]; exact b1, by rw [e 33 (by omega), z 2 (by decide)]; exact b2, by rw [e 33 (by omega), z 3 (by decide)]; exact b3⟩, fun f hf => by rw [e 34 (by omega), z _ (by omega)]; exact b4 f, fun l hl => ?_, fun p hp => ?_⟩
    · rw [z 2 (by decide)] at hl; omega
    · rw [z 3 (by decide)] at hp; omega
  have hN : NowR f0R m2 44 := by
    refine ⟨fun l hl => ?_, fun p hp => ?_⟩
    · rw [z 2 (by decide)] at hl; omega
    · rw [z 3 (by decide)] at hp; omega
  refine ⟨0, 0, HI_f0R.ag ag, hH.ag HI_f0R ag, hN.ag HI_f0R ag, ⟨by omega, by omega, by rw [e 0 (by omega), c7]; rfl, by rw [e 0 (by omega), c8]; rfl, by rw [d12 96 (by omega), z 96 (by decide)]; rfl, fun k hk => absurd hk (by omega)⟩, fun i hi => ?_, fun i hi => ?_, ⟨by rw [e 0 (by omega), a1, d5], by rw [d5]; omega, fun i hi => by rw [d5] at hi; exact absurd hi (by simp)⟩, by rw [e 2 (by omega), a2, d13], by rw [e 2 (by omega), a3, d14]⟩
  · rw [e 64 (by omega), c64, d213]
    exact ⟨rfl, fun q => absurd rfl q⟩
  · rw [d220 i hi, d221 i]
    refine ⟨by omega, Or.inl rfl, fun _ => ?_, fun q => absurd rfl q⟩
    rw [e _ (by omega)]
    exact tr i hi
/-- the memory ahead of all cells: 0, but where a reference that changes is null -/
def m00 : Mem := fun a k => if a = 22 ∧ k = 0 then -1 else 0
theorem m00_z {a k : Nat} (h : ¬ (a = 22 ∧ k = 0)) : m00 a k = 0 := by unfold m00; rw [if_neg h]
theorem okM_m00 : okM m00 := by
  intro a k
  unfold m00
  split
  · exact ⟨fun _ => by decide, by decide⟩
  · exact ⟨fun _ => by decide, by decide⟩
theorem law_Ex {bs Ls : Nat} {xs : Nat → Int32} {Γ : Gm} (hLs : Ls ≤ 3072) : Ex bs Ls xs Γ 1312 ML (600000, 7302250, 0, 0) 0 [qv bs, uv, uv, uv] [] (0, opS 0 []) m00 := by
  refine Ex.newc (q := 3) dL_law_0 ck11 kkL_7 kiX11 kzX11 k0 (fun j => ⟨fun z => absurd (f9 z) (by decide), fun _ => m00_z (fun y => absurd y.1 (by decide))⟩) (opS_new 0 []) (by decide) (by decide) rfl ?_
  refine Ex.cg (S' := opS 1 ([(0, 0), (0, 2), (0, 3), (0, 4), (0, 5), (0, 6), (0, 9), (0, 10), (0, 11), (0, 12), (0, 13), (0, 14), (0, 15), (0, 16), (0, 17)] ++ [])) (eqS_new (by decide) (fun y hy => by have h9 := isR_in k0 hy; rw [show (List.range (nfd 11)).filter (fun y => fty 11 y == 8) = [0, 2, 3, 4, 5, 6, 9, 10, 11, 12, 13, 14, 15, 16, 17] by decide] at h9; have h8 : ∀ y ∈ ([0, 2, 3, 4, 5, 6, 9, 10, 11, 12, 13, 14, 15, 16, 17] : List Nat), (0, y) ∈ ([(0, 0), (0, 2), (0, 3), (0, 4), (0, 5), (0, 6), (0, 9), (0, 10), (0, 11), (0, 12), (0, 13), (0, 14), (0, 15), (0, 16), (0, 17)] : List (Nat × Nat)) := (by decide); exact h8 y h9)) ?_
  show Ex bs Ls xs Γ 1312 ML (600000, 7302250, 1, 18) 3 [qv bs, uv, uv, uv] [rv 0] (1, opS 1 [(0, 0), (0, 2), (0, 3), (0, 4), (0, 5), (0, 6), (0, 9), (0, 10), (0, 11), (0, 12), (0, 13), (0, 14), (0, 15), (0, 16), (0, 17)]) m00
  refine Ex.dup (q := 4) dL_law_3 (fun z => by cases z) rfl ?_
  refine Ex.callI (q := 7) (M' := MX11_init) (d' := 3) (mc' := 210) (ms' := 6895) (As := []) (rest := [rv 0]) dL_law_4 mlL_9 moX11_init miX11_init rfl rfl rfl (Nat.le_of_ble_eq_true rfl) (by decide) (Nat.le_of_ble_eq_true rfl) (by decide) (by decide) (i_X11 (d := 0) (fun x h1 h2 j h3 => m00_z h3) (by decide)) (fun v g' m' h => by rw [h.1]) rfl (fun v1 g1 m1 t1 h1 => ?_)
  obtain ⟨rfl, hI1, hk1⟩ := h1
  refine Ex.psh0 t1 ?_
  show Ex bs Ls xs Γ 1312 ML (600000, 7302250, 211, 6913) 7 [qv bs, uv, uv, uv] [rv 0] (211, opS 211 []) m1
  refine Ex.astore_n (q := 8) dL_law_7 (by decide) rfl rfl ?_
  refine Ex.newc (q := 11) dL_law_8 ck12 kkL_10 kiX12 kzX12 k211 (fun j => ⟨fun z => absurd (f9 z) (by decide), fun _ => by show m1 211 j = 0; rw [hk1 211 (by decide)]; exact m00_z (fun y => absurd y.1 (by decide))⟩) (opS_new 211 []) (by decide) (by decide) rfl ?_
  refine Ex.cg (S' := opS 212 ([(211, 1), (211, 2), (211, 3), (211, 4), (211, 16), (211, 17), (211, 24), (211, 29), (211, 32), (211, 33), (211, 34)] ++ [])) (eqS_new (by decide) (fun y hy => by have h9 := isR_in k211 hy; rw [show (List.range (nfd 12)).filter (fun y => fty 12 y == 8) = [1, 2, 3, 4, 16, 17, 24, 29, 32, 33, 34] by decide] at h9; have h8 : ∀ y ∈ ([1, 2, 3, 4, 16, 17, 24, 29, 32, 33, 34] : List Nat), (211, y) ∈ ([(211, 1), (211, 2), (211, 3), (211, 4), (211, 16), (211, 17), (211, 24), (211, 29), (211, 32), (211, 33), (211, 34)] : List (Nat × Nat)) := (by decide); exact h8 y h9)) ?_
  show Ex bs Ls xs Γ 1312 ML (600000, 7302250, 212, 6948) 11 [qv bs, rv 0, uv, uv] [rv 211] (212, opS 212 [(211, 1), (211, 2), (211, 3), (211, 4), (211, 16), (211, 17), (211, 24), (211, 29), (211, 32), (211, 33), (211, 34)]) m1
  refine Ex.dup (q := 12) dL_law_11 (fun z => by cases z) rfl ?_
  refine Ex.callI (q := 15) (M' := MX12_init) (d' := 1) (mc' := 11) (ms' := 7456) (As := []) (rest := [rv 211]) dL_law_12 mlL_12 moX12_init miX12_init rfl rfl rfl (Nat.le_of_ble_eq_true rfl) (by decide) (Nat.le_of_ble_eq_true rfl) (by decide) (by decide) (i_X12 (d := 0) (fun x h1 h2 j => by rw [hk1 x (by omega)]; exact m00_z (by omega))) (fun v g' m' h => by rw [h.1]; rfl) rfl (fun v2 g2 m2 t2 h2 => ?_)
  obtain ⟨rfl, hI2, hk2⟩ := h2
  refine Ex.psh0 t2 ?_
  show Ex bs Ls xs Γ 1312 ML (600000, 7302250, 223, 14404) 15 [qv bs, rv 0, uv, uv] [rv 211] gF m2
  refine Ex.astore_n (q := 16) dL_law_15 (by decide) rfl rfl ?_
  refine Ex.iconst (q := 17) dL_law_16 ki_0 rfl ?_
  refine Ex.istore_n (q := 18) dL_law_17 (by decide) rfl rfl ?_
  exact lwLoop hLs Ls 0 m2 (by omega) (by omega) (SR_init hI1 hI2 hk2)
