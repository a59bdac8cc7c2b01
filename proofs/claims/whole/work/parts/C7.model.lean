/-! ===== constructors: the reference ===== -/
def I12 (m : Mem) : Prop := m 211 5 = 0 ∧ m 211 13 = 0 ∧ m 211 14 = -1 ∧ (∀ j, j < 1358 → m 212 j = f0R j) ∧ (∀ j, m 213 j = 0) ∧ (∀ i, i < 4 → m 220 i = -1) ∧ (∀ i, m 221 i = 0)
set_option maxRecDepth 8000 in
set_option maxHeartbeats 1000000 in
theorem i_X12 {Γ : Gm} {d : Nat} {m : Mem} (hz : ∀ x, 210 < x → x ≤ 222 → ∀ j, m x j = 0) : Cl Γ (d + 1) MX12_init 11 7456 [rv 211] (212, opS 212 ((211, 1) :: (211, 2) :: (211, 3) :: (211, 4) :: (211, 16) :: (211, 17) :: (211, 24) :: (211, 29) :: (211, 32) :: (211, 33) :: (211, 34) :: [])) m (fun v g' m' => g' = gF ∧ I12 m' ∧ ∀ x, x < 211 → m' x = m x) := by
  have hz0 := hz
  refine Cl.of moX12_init (fun v hv => by rw [List.mem_singleton.mp hv]; exact (by decide : (3 : Nat) ≠ 0)) (Nat.le_of_ble_eq_true rfl) ?_
  show Ev Γ (d + 1) MX12_init (11, 7456, 0, 0) _ 0 [rv 211] [] _ m
  refine Ev.aload_n (q := 1) dX12_init_0 rfl rfl ?_
  refine Ev.objI (q := 4) dX12_init_1 oiX12 (by omega) (Nat.le_of_ble_eq_true rfl) rfl ?_
  refine Ev.aload_n (q := 5) dX12_init_4 rfl rfl ?_
  refine Ev.sipush (q := 8) dX12_init_5 kh_4074 rfl ?_
  refine Ev.newaO (q := 10) (n := 212) dX12_init_8 ka_int k212 (by decide) rfl rfl (by decide) (fun j => by (try simp (disch := omega) only [up_o]); exact hz0 212 (by omega) (by omega) j) (by decide) (by decide) rfl ?_
  show Ev Γ _ _ (11, 7456, 1, 4074) _ 10 _ [rv 212, rv 211] (213, opS 213 ((211, 1) :: (211, 2) :: (211, 3) :: (211, 4) :: (211, 16) :: (211, 17) :: (211, 24) :: (211, 29) :: (211, 32) :: (211, 33) :: (211, 34) :: [])) _
  refine Ev.putO (q := 13) (n := 213) (o := (211, 2) :: (211, 3) :: (211, 4) :: (211, 16) :: (211, 17) :: (211, 24) :: (211, 29) :: (211, 32) :: (211, 33) :: (211, 34) :: []) dX12_init_10 gfX12_13 rfl k211 (by decide) (by decide +kernel) rfl (fun C T N h => by cases (ck12.1.symm.trans h); rfl) (by unfold nin; decide +kernel) rfl ?_
  refine Ev.aload_n (q := 14) dX12_init_13 rfl rfl ?_
  refine Ev.iconst (q := 15) dX12_init_14 ki_2 rfl ?_
  refine Ev.newaO (q := 17) (n := 213) dX12_init_15 ka_boolean k213 (by decide) rfl rfl (by decide) (fun j => by (try simp (disch := omega) only [up_o]); exact hz0 213 (by omega) (by omega) j) (by decide) (by decide) rfl ?_
  show Ev Γ _ _ (11, 7456, 2, 4076) _ 17 _ [rv 213, rv 211] (214, opS 214 ((211, 2) :: (211, 3) :: (211, 4) :: (211, 16) :: (211, 17) :: (211, 24) :: (211, 29) :: (211, 32) :: (211, 33) :: (211, 34) :: [])) _
  refine Ev.putO (q := 20) (n := 214) (o := (211, 3) :: (211, 4) :: (211, 16) :: (211, 17) :: (211, 24) :: (211, 29) :: (211, 32) :: (211, 33) :: (211, 34) :: []) dX12_init_17 gfX12_17 rfl k211 (by decide) (by decide +kernel) rfl (fun C T N h => by cases (ck12.1.symm.trans h); rfl) (by unfold nin; decide +kernel) rfl ?_
  refine Ev.aload_n (q := 21) dX12_init_20 rfl rfl ?_
  refine Ev.sipush (q := 24) dX12_init_21 kh_900 rfl ?_
  refine Ev.newaO (q := 26) (n := 214) dX12_init_24 ka_int k214 (by decide) rfl rfl (by decide) (fun j => by (try simp (disch := omega) only [up_o]); exact hz0 214 (by omega) (by omega) j) (by decide) (by decide) rfl ?_
  show Ev Γ _ _ (11, 7456, 3, 4976) _ 26 _ [rv 214, rv 211] (215, opS 215 ((211, 3) :: (211, 4) :: (211, 16) :: (211, 17) :: (211, 24) :: (211, 29) :: (211, 32) :: (211, 33) :: (211, 34) :: [])) _
  refine Ev.putO (q := 29) (n := 215) (o := (211, 4) :: (211, 16) :: (211, 17) :: (211, 24) :: (211, 29) :: (211, 32) :: (211, 33) :: (211, 34) :: []) dX12_init_26 gfX12_21 rfl k211 (by decide) (by decide +kernel) rfl (fun C T N h => by cases (ck12.1.symm.trans h); rfl) (by unfold nin; decide +kernel) rfl ?_
  refine Ev.aload_n (q := 30) dX12_init_29 rfl rfl ?_
  refine Ev.sipush (q := 33) dX12_init_30 kh_1358 rfl ?_
  refine Ev.newaO (q := 35) (n := 215) dX12_init_33 ka_int k215 (by decide) rfl rfl (by decide) (fun j => by (try simp (disch := omega) only [up_o]); exact hz0 215 (by omega) (by omega) j) (by decide) (by decide) rfl ?_
  show Ev Γ _ _ (11, 7456, 4, 6334) _ 35 _ [rv 215, rv 211] (216, opS 216 ((211, 4) :: (211, 16) :: (211, 17) :: (211, 24) :: (211, 29) :: (211, 32) :: (211, 33) :: (211, 34) :: [])) _
  refine Ev.putO (q := 38) (n := 216) (o := (211, 16) :: (211, 17) :: (211, 24) :: (211, 29) :: (211, 32) :: (211, 33) :: (211, 34) :: []) dX12_init_35 gfX12_24 rfl k211 (by decide) (by decide +kernel) rfl (fun C T N h => by cases (ck12.1.symm.trans h); rfl) (by unfold nin; decide +kernel) rfl ?_
  refine Ev.aload_n (q := 39) dX12_init_38 rfl rfl ?_
  refine Ev.iconst (q := 40) dX12_init_39 ki_m1 rfl ?_
  refine Ev.putI (q := 43) dX12_init_40 gfX12_27 rfl k211 (by decide : 211 < 216) rfl ?_
  refine Ev.aload_n (q := 44) dX12_init_43 rfl rfl ?_
  refine Ev.sipush (q := 47) dX12_init_44 kh_900 rfl ?_
  refine Ev.newaO (q := 49) (n := 216) dX12_init_47 ka_int k216 (by decide) rfl rfl (by decide) (fun j => by (try simp (disch := omega) only [up_o]); exact hz0 216 (by omega) (by omega) j) (by decide) (by decide) rfl ?_
  show Ev Γ _ _ (11, 7456, 5, 7234) _ 49 _ [rv 216, rv 211] (217, opS 217 ((211, 16) :: (211, 17) :: (211, 24) :: (211, 29) :: (211, 32) :: (211, 33) :: (211, 34) :: [])) _
  refine Ev.putO (q := 52) (n := 217) (o := (211, 17) :: (211, 24) :: (211, 29) :: (211, 32) :: (211, 33) :: (211, 34) :: []) dX12_init_49 gfX12_30 rfl k211 (by decide) (by decide +kernel) rfl (fun C T N h => by cases (ck12.1.symm.trans h); rfl) (by unfold nin; decide +kernel) rfl ?_
  refine Ev.aload_n (q := 53) dX12_init_52 rfl rfl ?_
  refine Ev.bipush (q := 55) dX12_init_53 kb_6 rfl ?_
  refine Ev.newaO (q := 57) (n := 217) dX12_init_55 ka_int k217 (by decide) rfl rfl (by decide) (fun j => by (try simp (disch := omega) only [up_o]); exact hz0 217 (by omega) (by omega) j) (by decide) (by decide) rfl ?_
  show Ev Γ _ _ (11, 7456, 6, 7240) _ 57 _ [rv 217, rv 211] (218, opS 218 ((211, 17) :: (211, 24) :: (211, 29) :: (211, 32) :: (211, 33) :: (211, 34) :: [])) _
  refine Ev.putO (q := 60) (n := 218) (o := (211, 24) :: (211, 29) :: (211, 32) :: (211, 33) :: (211, 34) :: []) dX12_init_57 gfX12_33 rfl k211 (by decide) (by decide +kernel) rfl (fun C T N h => by cases (ck12.1.symm.trans h); rfl) (by unfold nin; decide +kernel) rfl ?_
  refine Ev.aload_n (q := 61) dX12_init_60 rfl rfl ?_
  refine Ev.bipush (q := 63) dX12_init_61 kb_36 rfl ?_
  refine Ev.newaO (q := 65) (n := 218) dX12_init_63 ka_int k218 (by decide) rfl rfl (by decide) (fun j => by (try simp (disch := omega) only [up_o]); exact hz0 218 (by omega) (by omega) j) (by decide) (by decide) rfl ?_
  show Ev Γ _ _ (11, 7456, 7, 7276) _ 65 _ [rv 218, rv 211] (219, opS 219 ((211, 24) :: (211, 29) :: (211, 32) :: (211, 33) :: (211, 34) :: [])) _
  refine Ev.putO (q := 68) (n := 219) (o := (211, 29) :: (211, 32) :: (211, 33) :: (211, 34) :: []) dX12_init_65 gfX12_36 rfl k211 (by decide) (by decide +kernel) rfl (fun C T N h => by cases (ck12.1.symm.trans h); rfl) (by unfold nin; decide +kernel) rfl ?_
  refine Ev.aload_n (q := 69) dX12_init_68 rfl rfl ?_
  refine Ev.bipush (q := 71) dX12_init_69 kb_12 rfl ?_
  refine Ev.newaO (q := 73) (n := 219) dX12_init_71 ka_int k219 (by decide) rfl rfl (by decide) (fun j => by (try simp (disch := omega) only [up_o]); exact hz0 219 (by omega) (by omega) j) (by decide) (by decide) rfl ?_
  show Ev Γ _ _ (11, 7456, 8, 7288) _ 73 _ [rv 219, rv 211] (220, opS 220 ((211, 29) :: (211, 32) :: (211, 33) :: (211, 34) :: [])) _
  refine Ev.putO (q := 76) (n := 220) (o := (211, 32) :: (211, 33) :: (211, 34) :: []) dX12_init_73 gfX12_39 rfl k211 (by decide) (by decide +kernel) rfl (fun C T N h => by cases (ck12.1.symm.trans h); rfl) (by unfold nin; decide +kernel) rfl ?_
  refine Ev.aload_n (q := 77) dX12_init_76 rfl rfl ?_
  refine Ev.iconst (q := 78) dX12_init_77 ki_4 rfl ?_
  refine Ev.newaO (q := 80) (n := 220) dX12_init_78 ka_int k220 (by decide) rfl rfl (by decide) (fun j => by (try simp (disch := omega) only [up_o]); exact hz0 220 (by omega) (by omega) j) (by decide) (by decide) rfl ?_
  show Ev Γ _ _ (11, 7456, 9, 7292) _ 80 _ [rv 220, rv 211] (221, opS 221 ((211, 32) :: (211, 33) :: (211, 34) :: [])) _
  refine Ev.dup (q := 81) dX12_init_80 (fun z => by cases z) rfl ?_
  refine Ev.iconst (q := 82) dX12_init_81 ki_0 rfl ?_
  refine Ev.iconst (q := 83) dX12_init_82 ki_m1 rfl ?_
  refine Ev.iast (q := 84) dX12_init_83 k220 (by decide) (by decide) rfl ?_
  refine Ev.dup (q := 85) dX12_init_84 (fun z => by cases z) rfl ?_
  refine Ev.iconst (q := 86) dX12_init_85 ki_1 rfl ?_
  refine Ev.iconst (q := 87) dX12_init_86 ki_m1 rfl ?_
  refine Ev.iast (q := 88) dX12_init_87 k220 (by decide) (by decide) rfl ?_
  refine Ev.dup (q := 89) dX12_init_88 (fun z => by cases z) rfl ?_
  refine Ev.iconst (q := 90) dX12_init_89 ki_2 rfl ?_
  refine Ev.iconst (q := 91) dX12_init_90 ki_m1 rfl ?_
  refine Ev.iast (q := 92) dX12_init_91 k220 (by decide) (by decide) rfl ?_
  refine Ev.dup (q := 93) dX12_init_92 (fun z => by cases z) rfl ?_
  refine Ev.iconst (q := 94) dX12_init_93 ki_3 rfl ?_
  refine Ev.iconst (q := 95) dX12_init_94 ki_m1 rfl ?_
  refine Ev.iast (q := 96) dX12_init_95 k220 (by decide) (by decide) rfl ?_
  refine Ev.putO (q := 99) (n := 221) (o := (211, 33) :: (211, 34) :: []) dX12_init_96 gfX12_42 rfl k211 (by decide) (by decide +kernel) rfl (fun C T N h => by cases (ck12.1.symm.trans h); rfl) (by unfold nin; decide +kernel) rfl ?_
  refine Ev.aload_n (q := 100) dX12_init_99 rfl rfl ?_
  refine Ev.iconst (q := 101) dX12_init_100 ki_4 rfl ?_
  refine Ev.newaO (q := 103) (n := 221) dX12_init_101 ka_int k221 (by decide) rfl rfl (by decide) (fun j => by (try simp (disch := omega) only [up_o]); exact hz0 221 (by omega) (by omega) j) (by decide) (by decide) rfl ?_
  show Ev Γ _ _ (11, 7456, 10, 7296) _ 103 _ [rv 221, rv 211] (222, opS 222 ((211, 33) :: (211, 34) :: [])) _
  refine Ev.putO (q := 106) (n := 222) (o := (211, 34) :: []) dX12_init_103 gfX12_45 rfl k211 (by decide) (by decide +kernel) rfl (fun C T N h => by cases (ck12.1.symm.trans h); rfl) (by unfold nin; decide +kernel) rfl ?_
  refine Ev.aload_n (q := 107) dX12_init_106 rfl rfl ?_
  refine Ev.sipush (q := 110) dX12_init_107 kh_160 rfl ?_
  refine Ev.newaO (q := 112) (n := 222) dX12_init_110 ka_long k222 (by decide) rfl rfl (by decide) (fun j => by (try simp (disch := omega) only [up_o]); exact hz0 222 (by omega) (by omega) j) (by decide) (by decide) rfl ?_
  show Ev Γ _ _ (11, 7456, 11, 7456) _ 112 _ [rv 222, rv 211] (223, opS 223 ((211, 34) :: [])) _
  refine Ev.putO (q := 115) (n := 223) (o := []) dX12_init_112 gfX12_48 rfl k211 (by decide) (by decide +kernel) rfl (fun C T N h => by cases (ck12.1.symm.trans h); rfl) (by unfold nin; decide +kernel) rfl ?_
  refine Ev.aload_n (q := 116) dX12_init_115 rfl rfl ?_
  refine Ev.getR (q := 119) (r := 212) dX12_init_116 gfX12_13 rfl k211 (by decide) ((opS_v 223 ([]) 211 1).mpr ⟨by decide, by decide +kernel⟩) (by decide +kernel) rfl ?_
  refine Ev.cg (S' := gF.2) opS_all ?_
  refine Ev.callS (q := 122) (g := gF) (M' := MX12_plain) (d' := d) (As := [rv 212]) (rest := []) dX12_init_119 mlX12_52 moX12_plain msX12_plain rfl rfl (Nat.le_of_ble_eq_true rfl) (by omega) (Nat.le_of_ble_eq_true rfl) ⟨by decide, by decide⟩ (p_X12_plain (d := d) 212 4074 k212 (by decide)) (fun v g' m' h => by rw [h.1]) rfl (fun v1 g1 m1 t1 h1 => ?_)
  obtain ⟨rfl, h2, -, h3⟩ := h1
  rw [show psh v1 [] = [] from if_pos (show v1.1 = 0 from t1)]
  refine Ev.vret dX12_init_122 rfl ⟨by decide, by decide⟩ ?_
  have hk : ∀ x, x ≠ 212 → ∀ j, m1 x j = _ := fun x hx j => h3 x j (sA_f hx)
  refine ⟨rfl, ⟨?_, ?_, ?_, h2, ?_, ?_, ?_⟩, ?_⟩
  · rw [hk 211 (by decide)]; simp (disch := omega) only [up_o]; rw [up_ne _ _ (Or.inr (by decide))]; exact hz 211 (by omega) (by omega) 5
  · rw [hk 211 (by decide)]; simp (disch := omega) only [up_o]; rw [up_ne _ _ (Or.inr (by decide))]; exact hz 211 (by omega) (by omega) 13
  · rw [hk 211 (by decide)]; simp (disch := omega) only [up_o]; rw [up_eq]
  · intro j; rw [hk 213 (by decide)]; simp (disch := omega) only [up_o]; exact hz 213 (by omega) (by omega) j
  · intro i hi; rw [hk 220 (by decide)]; have : i = 0 ∨ i = 1 ∨ i = 2 ∨ i = 3 := by omega
    rcases this with rfl | rfl | rfl | rfl <;> simp [up]
  · intro i; rw [hk 221 (by decide)]; simp (disch := omega) only [up_o]; exact hz 221 (by omega) (by omega) i
  · intro x hx; funext j; rw [hk x (by omega)]; simp (disch := omega) only [up_o]
