/-! ===== the law: its loop ===== -/
theorem iand63 (x : Int) : 0 ≤ o_iand x 63 ∧ o_iand x 63 ≤ 63 := by
  have e : o_iand x 63 = ((Int32.ofInt x).toBitVec &&& 63#32).toInt := rfl
  have h : ((Int32.ofInt x).toBitVec &&& 63#32).toNat ≤ 63 := by rw [BitVec.toNat_and]; exact Nat.and_le_right
  rw [e, BitVec.toInt_eq_toNat_of_lt (by omega)]
  omega
theorem lwSw {bs Ls i : Nat} {xs : Nat → Int32} {Γ : Gm} {m : Mem} (hLs : Ls ≤ 3072) (h6 : i + 6 ≤ Ls) (h : SR m) (kk : ∀ m', SR m' → ExL bs Ls xs Γ 1767 i [] m') (y : Int) (hy : 0 ≤ y ∧ y ≤ 63) : ExL bs Ls xs Γ 33 i [iv y] m := by
  by_cases h48 : y ≤ 48
  · obtain ⟨k, rfl⟩ : ∃ k : Nat, y = k := ⟨y.toNat, by omega⟩
    have hk : k < 49 := by omega
    match k, hk with
    | 0, _ => exact Ex.tabIn (q := 244) dL_law_33 (by decide) (by decide) rfl rfl (lwC_0 hLs h6 h kk)
    | 1, _ => exact Ex.tabIn (q := 307) dL_law_33 (by decide) (by decide) rfl rfl (lwC_1 hLs h6 h kk)
    | 2, _ => exact Ex.tabIn (q := 330) dL_law_33 (by decide) (by decide) rfl rfl (lwC_2 hLs h6 h kk)
    | 3, _ => exact Ex.tabIn (q := 353) dL_law_33 (by decide) (by decide) rfl rfl (lwC_3 hLs h6 h kk)
    | 4, _ => exact Ex.tabIn (q := 386) dL_law_33 (by decide) (by decide) rfl rfl (lwC_4 hLs h6 h kk)
    | 5, _ => exact Ex.tabIn (q := 419) dL_law_33 (by decide) (by decide) rfl rfl (lwC_5 hLs h6 h kk)
    | 6, _ => exact Ex.tabIn (q := 462) dL_law_33 (by decide) (by decide) rfl rfl (lwC_6 hLs h6 h kk)
    | 7, _ => exact Ex.tabIn (q := 505) dL_law_33 (by decide) (by decide) rfl rfl (lwC_7 hLs h6 h kk)
    | 8, _ => exact Ex.tabIn (q := 528) dL_law_33 (by decide) (by decide) rfl rfl (lwC_8 hLs h6 h kk)
    | 9, _ => exact Ex.tabIn (q := 561) dL_law_33 (by decide) (by decide) rfl rfl (lwC_9 hLs h6 h kk)
    | 10, _ => exact Ex.tabIn (q := 594) dL_law_33 (by decide) (by decide) rfl rfl (lwC_10 hLs h6 h kk)
    | 11, _ => exact Ex.tabIn (q := 617) dL_law_33 (by decide) (by decide) rfl rfl (lwC_11 hLs h6 h kk)
    | 12, _ => exact Ex.tabIn (q := 640) dL_law_33 (by decide) (by decide) rfl rfl (lwC_12 hLs h6 h kk)
    | 13, _ => exact Ex.tabIn (q := 673) dL_law_33 (by decide) (by decide) rfl rfl (lwC_13 hLs h6 h kk)
    | 14, _ => exact Ex.tabIn (q := 706) dL_law_33 (by decide) (by decide) rfl rfl (lwC_14 hLs h6 h kk)
    | 15, _ => exact Ex.tabIn (q := 729) dL_law_33 (by decide) (by decide) rfl rfl (lwC_15 hLs h6 h kk)
    | 16, _ => exact Ex.tabIn (q := 762) dL_law_33 (by decide) (by decide) rfl rfl (lwC_16 hLs h6 h kk)
    | 17, _ => exact Ex.tabIn (q := 785) dL_law_33 (by decide) (by decide) rfl rfl (lwC_17 hLs h6 h kk)
    | 18, _ => exact Ex.tabIn (q := 818) dL_law_33 (by decide) (by decide) rfl rfl (lwC_18 hLs h6 h kk)
    | 19, _ => exact Ex.tabIn (q := 841) dL_law_33 (by decide) (by decide) rfl rfl (lwC_19 hLs h6 h kk)
    | 20, _ => exact Ex.tabIn (q := 874) dL_law_33 (by decide) (by decide) rfl rfl (lwC_20 hLs h6 h kk)
    | 21, _ => exact Ex.tabIn (q := 907) dL_law_33 (by decide) (by decide) rfl rfl (lwC_21 hLs h6 h kk)
    | 22, _ => exact Ex.tabIn (q := 930) dL_law_33 (by decide) (by decide) rfl rfl (lwC_22 hLs h6 h kk)
    | 23, _ => exact Ex.tabIn (q := 963) dL_law_33 (by decide) (by decide) rfl rfl (lwC_23 hLs h6 h kk)
    | 24, _ => exact Ex.tabIn (q := 996) dL_law_33 (by decide) (by decide) rfl rfl (lwC_24 hLs h6 h kk)
    | 25, _ => exact Ex.tabIn (q := 1020) dL_law_33 (by decide) (by decide) rfl rfl (lwC_25 hLs h6 h kk)
    | 26, _ => exact Ex.tabIn (q := 1043) dL_law_33 (by decide) (by decide) rfl rfl (lwC_26 hLs h6 h kk)
    | 27, _ => exact Ex.tabIn (q := 1066) dL_law_33 (by decide) (by decide) rfl rfl (lwC_27 hLs h6 h kk)
    | 28, _ => exact Ex.tabIn (q := 1099) dL_law_33 (by decide) (by decide) rfl rfl (lwC_28 hLs h6 h kk)
    | 29, _ => exact Ex.tabIn (q := 1122) dL_law_33 (by decide) (by decide) rfl rfl (lwC_29 hLs h6 h kk)
    | 30, _ => exact Ex.tabIn (q := 1156) dL_law_33 (by decide) (by decide) rfl rfl (lwC_30 hLs h6 h kk)
    | 31, _ => exact Ex.tabIn (q := 1189) dL_law_33 (by decide) (by decide) rfl rfl (lwC_31 hLs h6 h kk)
    | 32, _ => exact Ex.tabIn (q := 1223) dL_law_33 (by decide) (by decide) rfl rfl (lwC_32 hLs h6 h kk)
    | 33, _ => exact Ex.tabIn (q := 1246) dL_law_33 (by decide) (by decide) rfl rfl (lwC_33 hLs h6 h kk)
    | 34, _ => exact Ex.tabIn (q := 1269) dL_law_33 (by decide) (by decide) rfl rfl (lwC_34 hLs h6 h kk)
    | 35, _ => exact Ex.tabIn (q := 1313) dL_law_33 (by decide) (by decide) rfl rfl (lwC_35 hLs h6 h kk)
    | 36, _ => exact Ex.tabIn (q := 1357) dL_law_33 (by decide) (by decide) rfl rfl (lwC_36 hLs h6 h kk)
    | 37, _ => exact Ex.tabIn (q := 1370) dL_law_33 (by decide) (by decide) rfl rfl (lwC_37 hLs h6 h kk)
    | 38, _ => exact Ex.tabIn (q := 1393) dL_law_33 (by decide) (by decide) rfl rfl (lwC_38 hLs h6 h kk)
    | 39, _ => exact Ex.tabIn (q := 1416) dL_law_33 (by decide) (by decide) rfl rfl (lwC_39 hLs h6 h kk)
    | 40, _ => exact Ex.tabIn (q := 1449) dL_law_33 (by decide) (by decide) rfl rfl (lwC_40 hLs h6 h kk)
    | 41, _ => exact Ex.tabIn (q := 1482) dL_law_33 (by decide) (by decide) rfl rfl (lwC_41 hLs h6 h kk)
    | 42, _ => exact Ex.tabIn (q := 1515) dL_law_33 (by decide) (by decide) rfl rfl (lwC_42 hLs h6 h kk)
    | 43, _ => exact Ex.tabIn (q := 1548) dL_law_33 (by decide) (by decide) rfl rfl (lwC_43 hLs h6 h kk)
    | 44, _ => exact Ex.tabIn (q := 1591) dL_law_33 (by decide) (by decide) rfl rfl (lwC_44 hLs h6 h kk)
    | 45, _ => exact Ex.tabIn (q := 1665) dL_law_33 (by decide) (by decide) rfl rfl (lwC_45 hLs h6 h kk)
    | 46, _ => exact Ex.tabIn (q := 1698) dL_law_33 (by decide) (by decide) rfl rfl (lwC_46 hLs h6 h kk)
    | 47, _ => exact Ex.tabIn (q := 1721) dL_law_33 (by decide) (by decide) rfl rfl (lwC_47 hLs h6 h kk)
    | 48, _ => exact Ex.tabIn (q := 1744) dL_law_33 (by decide) (by decide) rfl rfl (lwC_48 hLs h6 h kk)
    | k + 49, hk => exact absurd hk (by omega)
  · exact Ex.tabOut (q := 1767) dL_law_33 (Or.inr (by omega)) rfl (kk m h)
theorem lwLoop {bs Ls : Nat} {xs : Nat → Int32} {Γ : Gm} (hLs : Ls ≤ 3072) : ∀ (n i : Nat) (m : Mem), Ls ≤ i + n → i ≤ 3078 → SR m → ExL bs Ls xs Γ 18 i [] m := by
  intro n
  induction n with
  | zero =>
    intro i m hn hi h
    refine Ex.iload_n (q := 19) dL_law_18 rfl rfl ?_
    refine Ex.aloadq (q := 20) dL_law_19 rfl rfl ?_
    refine Ex.slen (q := 21) dL_law_20 hLs rfl ?_
    refine Ex.bipush (q := 23) dL_law_21 kb_6 rfl ?_
    refine Ex.isub (q := 24) dL_law_23 rfl ?_
    rw [show w32 ((Ls : Int) - 6) = (Ls : Int) - 6 from w32_of (by omega) (by omega)]
    refine Ex.icmp_gt (tgt := 1773) (q := 27) dL_law_24 rfl rfl (fun hgt => ?_) (fun hle => ?_)
    · refine Ex.iconst (q := 1774) dL_law_1773 ki_1 rfl ?_
      exact Ex.end1 rfl dL_law_1774 ⟨by decide, by decide⟩
    · exact absurd hle (by omega)
  | succ n ih =>
    intro i m hn hi h
    refine Ex.iload_n (q := 19) dL_law_18 rfl rfl ?_
    refine Ex.aloadq (q := 20) dL_law_19 rfl rfl ?_
    refine Ex.slen (q := 21) dL_law_20 hLs rfl ?_
    refine Ex.bipush (q := 23) dL_law_21 kb_6 rfl ?_
    refine Ex.isub (q := 24) dL_law_23 rfl ?_
    rw [show w32 ((Ls : Int) - 6) = (Ls : Int) - 6 from w32_of (by omega) (by omega)]
    refine Ex.icmp_gt (tgt := 1773) (q := 27) dL_law_24 rfl rfl (fun hgt => ?_) (fun hle => ?_)
    · refine Ex.iconst (q := 1774) dL_law_1773 ki_1 rfl ?_
      exact Ex.end1 rfl dL_law_1774 ⟨by decide, by decide⟩
    · refine Ex.aloadq (q := 28) dL_law_27 rfl rfl ?_
      refine Ex.iload_n (q := 29) dL_law_28 rfl rfl ?_
      refine Ex.sld (q := 30) (i := i) dL_law_29 rfl (by omega) hLs rfl ?_
      refine Ex.bipush (q := 32) dL_law_30 kb_63 rfl ?_
      refine Ex.iand (q := 33) dL_law_32 rfl ?_
      refine lwSw hLs (by omega) h (fun m2 h2 => ?_) _ (iand63 _)
      refine Ex.iinc (q := 1770) dL_law_1767 (by decide) rfl rfl rfl ?_
      refine Ex.goto (q := 18) dL_law_1770 rfl ?_
      have e : w32 ((i : Int) + 6) = ((i + 6 : Nat) : Int) := by rw [w32_of (by omega) (by omega)]; omega
      rw [e]
      exact ih (i + 6) m2 (by omega) (by omega) h2
