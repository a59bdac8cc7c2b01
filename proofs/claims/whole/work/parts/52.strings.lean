/-! ===== String constants ===== -/
section STRINGS
variable {Γ : Gm} {d : Nat} {M : Mth} {P : Int → Mem → Prop} {pc q : Nat} {L st : List Vl} {m : Mem}
theorem ad_str (Γ : Gm) (i : Nat) : ad Γ (100000 + i) = gK Γ i := by
  unfold ad
  rw [if_neg (by omega), Nat.add_sub_cancel_left]
theorem sVal {i idx : Nat} (hi : i < nSt) (hdg : decode (Mc M) pc = .ok (.getfield idx, 3)) (hl : Cond.fieldLink (Mo M) idx "java/lang/String" "value" "[B" ∈ tb) (hq : pc + 3 = q) (kk : Em Γ d M P q L (qv (gV Γ i) :: st) m) : Em Γ d M P pc L (rv (100000 + i) :: st) m := by
  subst hq
  intro hL hst hm p e s mi args below meth c H locs ls C hS hW hl9
  obtain ⟨hx, hb, hr, hlk, hml, hown, hnm, hts, hKs, hSK, hsz⟩ := id C
  rw [List.map_cons, conc_rv, ad_str]
  refine vk_getf hx hb (hSK.1.1 i hi).2.2.1 hS hown (hts _ hl) (fun x h => h) hdg ?_
  exact kk hL (okL_cons (okV_qv _) (okL_tl hst)) hm p e s mi args below meth c H locs ls C hS hW hl9
theorem sCod {i idx : Nat} (hi : i < nSt) (hdg : decode (Mc M) pc = .ok (.getfield idx, 3)) (hl : Cond.fieldLink (Mo M) idx "java/lang/String" "coder" "B" ∈ tb) (hq : pc + 3 = q) (kk : Em Γ d M P q L (iv 0 :: st) m) : Em Γ d M P pc L (rv (100000 + i) :: st) m := by
  subst hq
  intro hL hst hm p e s mi args below meth c H locs ls C hS hW hl9
  obtain ⟨hx, hb, hr, hlk, hml, hown, hnm, hts, hKs, hSK, hsz⟩ := id C
  rw [List.map_cons, conc_rv, ad_str]
  refine vk_getf hx hb (hSK.1.1 i hi).2.1 hS hown (hts _ hl) (fun x h => h) hdg ?_
  exact kk hL (okL_cons (okV_iv w0) (okL_tl hst)) hm p e s mi args below meth c H locs ls C hS hW hl9
theorem sCmp {idx : Nat} (hdg : decode (Mc M) pc = .ok (.getstatic idx, 3)) (hl : Cond.fieldLink (Mo M) idx "java/lang/String" "COMPACT_STRINGS" "Z" ∈ tb) (hq : pc + 3 = q) (kk : Em Γ d M P q L (iv 1 :: st) m) : Em Γ d M P pc L st m := by
  subst hq
  intro hL hst hm p e s mi args below meth c H locs ls C hS hW hl9
  obtain ⟨hx, hb, hr, hlk, hml, hown, hnm, hts, hKs, hSK, hsz⟩ := id C
  refine va_gets hx hb hSK.2.1.1 hS hown (hts _ hl) (fun x h => h) hdg ?_
  exact kk hL (okL_cons (okV_iv (by decide)) hst) hm p e s mi args below meth c H locs ls C hS hW hl9
theorem sFmt {idx : Nat} (hdg : decode (Mc M) pc = .ok (.getstatic idx, 3)) (hl : Cond.fieldLink (Mo M) idx "jdk/internal/util/Preconditions" "SIOOBE_FORMATTER" "Ljava/util/function/BiFunction;" ∈ tb) (hq : pc + 3 = q) (kk : ∀ v : Vl, (v = nv ∨ ∃ t, v = qv t) → Em Γ d M P q L (v :: st) m) : Em Γ d M P pc L st m := by
  subst hq
  intro hL hst hm p e s mi args below meth c H locs ls C hS hW hl9
  obtain ⟨hx, hb, hr, hlk, hml, hown, hnm, hts, hKs, hSK, hsz⟩ := id C
  rcases hSK.2.1.2 with hz | ⟨t, hz⟩
  · refine va_gets hx hb hz hS hown (hts _ hl) (fun x h => h) hdg ?_
    exact kk nv (Or.inl rfl) hL (okL_cons okV_nv hst) hm p e s mi args below meth c H locs ls C hS hW hl9
  · refine va_gets hx hb hz hS hown (hts _ hl) (fun x h => h) hdg ?_
    exact kk (qv t) (Or.inr ⟨t, rfl⟩) hL (okL_cons (okV_qv t) hst) hm p e s mi args below meth c H locs ls C hS hW hl9
theorem lenS_lt : ∀ i, i < nSt → lenS.getD i 0 < 1000 := by decide +kernel
theorem sLen {i : Nat} (hi : i < nSt) (hdg : decode (Mc M) pc = .ok (.arraylength, 1)) (hq : pc + 1 = q) (kk : Em Γ d M P q L (iv (lenS.getD i 0 : Nat) :: st) m) : Em Γ d M P pc L (qv (gV Γ i) :: st) m := by
  subst hq
  intro hL hst hm p e s mi args below meth c H locs ls C hS hW hl9
  obtain ⟨hx, hb, hr, hlk, hml, hown, hnm, hts, hKs, hSK, hsz⟩ := id C
  have h3 := lenS_lt i hi
  rw [List.map_cons, conc_qv]
  refine va_tlen hx hb (hSK.1.1 i hi).2.2.2 hS (v := Int32.ofInt (lenS.getD i 0 : Nat)) (ofI _).symm hdg ?_
  exact kk hL (okL_cons (okV_iv (w32_of (by omega) (by omega))) (okL_tl hst)) hm p e s mi args below meth c H locs ls C hS hW hl9
theorem sByt {i k : Nat} {x : Int} (hi : i < nSt) (hdg : decode (Mc M) pc = .ok (.baload, 1)) (hx9 : x = (k : Int)) (hk : k < lenS.getD i 0) (hq : pc + 1 = q) (kk : Em Γ d M P q L (iv ((bytS.getD i []).getD k 0).toInt :: st) m) : Em Γ d M P pc L (iv x :: qv (gV Γ i) :: st) m := by
  subst hq
  subst hx9
  intro hL hst hm p e s mi args below meth c H locs ls C hS hW hl9
  obtain ⟨hx, hb, hr, hlk, hml, hown, hnm, hts, hKs, hSK, hsz⟩ := id C
  have h3 := lenS_lt i hi
  have hw : w32 (k : Int) = k := w32_of (by omega) (by omega)
  rw [List.map_cons, List.map_cons, conc_qv, conc_iv]
  refine va_tb hx hb (hSK.1.1 i hi).2.2.2 hS (i32_in hw ⟨by omega, by omega⟩) (v := .int (Int32.ofInt ((bytS.getD i []).getD k 0).toInt)) ?_ hdg ?_
  · rw [i32_nat hw, Int.toNat_natCast, Int32.ofInt_toInt]
  · exact kk hL (okL_cons (okV_iv (w32_to _)) (okL_tl (okL_tl hst))) hm p e s mi args below meth c H locs ls C hS hW hl9
theorem qload_0 {x : Nat} {L : List Vl} (hdg : decode (Mc M) pc = .ok (.aload_n 0, 1)) (hi : L[0]? = some (qv x)) (hq : pc + 1 = q) (k : Em Γ d M P q L (qv x :: st) m) : Em Γ d M P pc L st m := by
  subst hq
  intro hL hst hm p e s mi args below meth c H locs ls C hS hW hl
  obtain ⟨hx, hb, hr, hlk, hml, hown, hnm, hts, hK, hSK, hsz⟩ := id C
  exact lv_aload_n hx hb hdg rfl (hl.at hi (by show ¬ (5 : Nat) = 0; decide)) (k hL (okL_cons (okL_at hL hi) hst) hm p e s mi args below meth c H locs ls C hS hW hl)
theorem cVS {M' : Mth} {d' i idx : Nat} {As rest : List Vl} {P' : Int → Mem → Prop} (hi : i < nSt) (hdg : decode (Mc M) pc = .ok (.invokevirtual idx, 3)) (hl : Cond.methodLink (Mo M) idx (My M') ∈ tb) (hok : MOk M') (hv : MVt M') (hC : Mo M' = "java/lang/String") (hlen : As.length = Mp M') (hst : st = As.reverse ++ rv (100000 + i) :: rest) (hsum : Nat.ble (catS rest) 8 = true) (hd : d' + 1 ≤ d) (h45 : Nat.ble (Mn M') 45 = true) (hr : rtag (Mr M') = 1) (hq : pc + 3 = q)
    (hc : Ci Γ d' M' (rv (100000 + i) :: As) m P') (k : ∀ (x : Int) (m' : Mem), P' x m' → Em Γ d M P q L (iv x :: rest) m') : Em Γ d M P pc L st m := by
  subst hq
  subst hst
  intro hL hst hm p e s mi args below meth c H locs ls C hS hW hlo
  obtain ⟨hx, hb, hr9, hlk, hml, hown, hnm, hts, hKs, hSK, hsz⟩ := id C
  have hrest : okL rest := fun w hw => hst w (List.mem_append_right _ (List.mem_cons_of_mem _ hw))
  have hAs : okL (rv (100000 + i) :: As) := okL_cons (okV_rv _) (fun w hw => hst w (List.mem_append_left _ (List.mem_reverse.mpr hw)))
  refine run_ev (M' := M') (Po' := mP P') (mc' := 0) (ms' := 0) (rest := rest) (av := (Value.ref (ad Γ (100000 + i)) :: As.map (conc Γ)).toArray) hL hrest C hS hW hlo (fun hz => ?_) (fun v g' m' h => by rw [h.1]; rfl) (fun v g' m' h hp => ?_)
  · refine va_runV (C := "java/lang/String") (As := As.map (conc Γ)) (b := ad Γ (100000 + i)) (Pc := PcE Γ (rv (100000 + i) :: As) gF m) ⟨hx, hb, hml, hown, hts⟩ hc ⟨callB hok hts hl hd (Nat.le_of_ble_eq_true h45), hts _ hv.1, by rw [← hC]; exact hts _ hv.2⟩ ⟨PcE.blind _ _ _ _, ?_, pre_of hS hW hKs hSK hAs hm hz⟩ rfl (by rw [List.length_map]; exact hlen) hlo.1 ?_ (lv_room (by rw [catS_eq]; exact Nat.le_of_ble_eq_true hsum)) hdg ⟨Nat.le_refl _, Nat.le_refl _⟩
    · rw [ad_str]
      exact vk_recv hSK.1 hi hS
    · show (As.reverse ++ rv (100000 + i) :: rest).map (conc Γ) = _
      rw [List.map_append, List.map_reverse, List.map_cons, conc_rv]
  · obtain ⟨rfl, hp⟩ := hp
    rw [hr] at h
    have e1 : psh v rest = iv v.2 :: rest := by unfold psh; rw [if_neg (by rw [h]; decide), ← vl_i h]
    rw [e1]
    exact k v.2 m' hp
theorem rB0 (hdg : decode (Mc M) pc = .ok (.ireturn, 1)) (hrt : Mr M = some .byte) (kk : P 0 m) : Em Γ d M P pc L [iv 0] m := Ev.iret hdg hrt ⟨rfl, rfl⟩ ⟨Nat.le_refl _, Nat.le_refl _⟩ ⟨rfl, kk⟩
theorem rC {x : Int} (hdg : decode (Mc M) pc = .ok (.ireturn, 1)) (hrt : Mr M = some .char) (hx : narrow .char (.int (Int32.ofInt x)) = .int (Int32.ofInt x)) (kk : P x m) : Em Γ d M P pc L [iv x] m := Ev.iret hdg hrt ⟨hx, rfl⟩ ⟨Nat.le_refl _, Nat.le_refl _⟩ ⟨rfl, kk⟩
end STRINGS
/-- the characters of the constants -/
def chT : List (List Nat) := [[104, 111, 117, 115, 101], [108, 105, 102, 116], [97, 116], [115, 112, 101, 101, 100], [115, 116, 111, 112, 115], [108, 105, 116], [100, 111, 119, 110], [112, 101, 114, 115, 111, 110], [104, 111, 109, 101], [105, 110], [108, 111, 97, 100], [97, 103, 101], [119, 111, 114, 116, 104], [102, 111, 111, 116], [117, 112], [102, 108, 111, 111, 114], [115, 116, 111, 112], [99, 97, 108, 108, 115], [116, 105, 109, 101, 115], [32, 104, 111, 117, 115, 101, 32, 108, 105, 102, 116, 32, 97, 116, 32, 115, 112, 101, 101, 100, 32, 115, 116, 111, 112, 115, 32, 108, 105, 116, 32, 100, 111, 119, 110, 32, 112, 101, 114, 115, 111, 110, 32, 104, 111, 109, 101, 32, 105, 110, 32, 108, 111, 97, 100, 32, 97, 103, 101, 32, 119, 111, 114, 116, 104, 32, 102, 111, 111, 116, 32, 115, 116, 111, 112, 32, 99, 97, 108, 108, 115, 32, 116, 105, 109, 101, 115, 32, 117, 112, 32, 102, 108, 111, 111, 114, 32], [59, 58, 43, 45, 42, 40, 41]]
def chS (i k : Nat) : Int := (((chT.getD i []).getD k 0 : Nat) : Int)
theorem chS_ok : ∀ i, i < nSt → lenS.getD i 0 = (chT.getD i []).length ∧ ∀ k, k < lenS.getD i 0 → ich (o_iand ((bytS.getD i []).getD k 0).toInt 255) = chS i k ∧ (chT.getD i []).getD k 0 < 128 := by decide +kernel
theorem nar_ch : ∀ c : Nat, c < 128 → ((Int32.ofInt (c : Int)).toUInt32 % 65536).toInt32 = Int32.ofInt (c : Int) := by decide +kernel
theorem chS_nar {i k : Nat} (hi : i < nSt) (hk : k < lenS.getD i 0) : narrow .char (.int (Int32.ofInt (chS i k))) = .int (Int32.ofInt (chS i k)) := by
  have h := ((chS_ok i hi).2 k hk).2
  exact congrArg Value.int (nar_ch _ h)
theorem ishr_0 : ∀ i, i < nSt → o_ishr (lenS.getD i 0 : Nat) 0 = (lenS.getD i 0 : Nat) := by decide +kernel
set_option maxRecDepth 4000 in
theorem p_J0_isLatin1_aae02 {Γ : Gm} {d : Nat} {m : Mem} (i : Nat) (hi : i < nSt) : Ci Γ (d + 0) MJ0_isLatin1_aae02 [rv (100000 + i)] m (fun r m' => r = 1 ∧ m' = m) := by
  refine Ci.of moJ0_isLatin1_aae02 rfl rfl (fun hA hM => ?_)
  show Em Γ (d + 0) MJ0_isLatin1_aae02 _ 0 [rv (100000 + i)] [] m
  refine sCmp (q := 3) dJ0_isLatin1_aae02_0 (tb3 93 rfl rfl) rfl ?_
  refine Ev.if_eq (tgt := 17) (q := 6) dJ0_isLatin1_aae02_3 (by decide) rfl (fun h1 => by omega) (fun h1 => ?_)
  refine Ev.aload_n (q := 7) dJ0_isLatin1_aae02_6 rfl rfl ?_
  refine sCod (q := 10) hi dJ0_isLatin1_aae02_7 (tb9 31 rfl rfl) rfl ?_
  refine Ev.if_ne (tgt := 17) (q := 13) dJ0_isLatin1_aae02_10 (by decide) rfl (fun h2 => by omega) (fun h2 => ?_)
  refine Ev.iconst (q := 14) dJ0_isLatin1_aae02_13 ki_1 rfl ?_
  refine Ev.goto (q := 18) dJ0_isLatin1_aae02_14 (by decide) ?_
  refine rZ dJ0_isLatin1_aae02_18 rfl (by decide) ?_
  exact ⟨rfl, rfl⟩
set_option maxRecDepth 4000 in
theorem p_J0_coder_7d493 {Γ : Gm} {d : Nat} {m : Mem} (i : Nat) (hi : i < nSt) : Ci Γ (d + 0) MJ0_coder_7d493 [rv (100000 + i)] m (fun r m' => r = 0 ∧ m' = m) := by
  refine Ci.of moJ0_coder_7d493 rfl rfl (fun hA hM => ?_)
  show Em Γ (d + 0) MJ0_coder_7d493 _ 0 [rv (100000 + i)] [] m
  refine sCmp (q := 3) dJ0_coder_7d493_0 (tb3 93 rfl rfl) rfl ?_
  refine Ev.if_eq (tgt := 13) (q := 6) dJ0_coder_7d493_3 (by decide) rfl (fun h1 => by omega) (fun h1 => ?_)
  refine Ev.aload_n (q := 7) dJ0_coder_7d493_6 rfl rfl ?_
  refine sCod (q := 10) hi dJ0_coder_7d493_7 (tb9 31 rfl rfl) rfl ?_
  refine Ev.goto (q := 14) dJ0_coder_7d493_10 (by decide) ?_
  refine rB0 dJ0_coder_7d493_14 rfl ?_
  exact ⟨rfl, rfl⟩
set_option maxRecDepth 4000 in
theorem p_J0_length_8abf5 {Γ : Gm} {d : Nat} {m : Mem} (i : Nat) (hi : i < nSt) : Ci Γ (d + 1) MJ0_length_8abf5 [rv (100000 + i)] m (fun r m' => r = (lenS.getD i 0 : Nat) ∧ m' = m) := by
  refine Ci.of moJ0_length_8abf5 rfl rfl (fun hA hM => ?_)
  show Em Γ (d + 1) MJ0_length_8abf5 _ 0 [rv (100000 + i)] [] m
  refine Ev.aload_n (q := 1) dJ0_length_8abf5_0 rfl rfl ?_
  refine sVal (q := 4) hi dJ0_length_8abf5_1 (tb9 30 rfl rfl) rfl ?_
  refine sLen (q := 5) hi dJ0_length_8abf5_4 rfl ?_
  refine Ev.aload_n (q := 6) dJ0_length_8abf5_5 rfl rfl ?_
  refine cVS (q := 9) (d' := d + 0) (As := []) hi dJ0_length_8abf5_6 mlJ0_335 moJ0_coder_7d493 mvJ0_coder_7d493 rfl rfl rfl rfl (Nat.le_refl _) rfl rfl rfl (p_J0_coder_7d493 i hi) (fun r1 m1 e1 => ?_)
  obtain ⟨rfl, e1⟩ := e1
  obtain rfl := e1.symm
  refine Ev.ishr (q := 10) dJ0_length_8abf5_9 rfl ?_
  rw [ishr_0 i hi]
  refine rI dJ0_length_8abf5_10 rfl ?_
  exact ⟨rfl, rfl⟩
set_option maxRecDepth 4000 in
theorem p_J3_checkIndex_8e157 {Γ : Gm} {d : Nat} {m : Mem} (k n : Int) (v : Vl) (hv : v = nv ∨ ∃ t, v = qv t) (hk : 0 ≤ k ∧ k < n) : Ci Γ (d + 0) MJ3_checkIndex_8e157 [iv k, iv n, v] m (fun r m' => r = k ∧ m' = m) := by
  have hn : nz [iv k, iv n, v] = true := by rcases hv with rfl | ⟨t, rfl⟩ <;> rfl
  have hf : Nat.ble (flatA [iv k, iv n, v]).length (Mn MJ3_checkIndex_8e157) = true := by rcases hv with rfl | ⟨t, rfl⟩ <;> rfl
  have hL : entL (Mn MJ3_checkIndex_8e157) [iv k, iv n, v] = [iv k, iv n, v] := by rcases hv with rfl | ⟨t, rfl⟩ <;> rfl
  refine Ci.of moJ3_checkIndex_8e157 hn hf (fun hA hM => ?_)
  rw [hL]
  show Em Γ (d + 0) MJ3_checkIndex_8e157 _ 0 [iv k, iv n, v] [] m
  refine Ev.iload_n (q := 1) dJ3_checkIndex_8e157_0 rfl rfl ?_
  refine Ev.if_lt (tgt := 9) (q := 4) dJ3_checkIndex_8e157_1 (by decide) rfl (fun h1 => by omega) (fun h1 => ?_)
  refine Ev.iload_n (q := 5) dJ3_checkIndex_8e157_4 rfl rfl ?_
  refine Ev.iload_n (q := 6) dJ3_checkIndex_8e157_5 rfl rfl ?_
  refine Ev.icmp_lt (tgt := 16) (q := 9) dJ3_checkIndex_8e157_6 (by decide) rfl (fun h2 => ?_) (fun h2 => by omega)
  refine Ev.iload_n (q := 17) dJ3_checkIndex_8e157_16 rfl rfl ?_
  refine rI dJ3_checkIndex_8e157_17 rfl ?_
  exact ⟨rfl, rfl⟩
set_option maxRecDepth 4000 in
theorem p_J0_checkIndex_df160 {Γ : Gm} {d : Nat} {m : Mem} (k n : Int) (hk : 0 ≤ k ∧ k < n) : Ci Γ (d + 1) MJ0_checkIndex_df160 [iv k, iv n] m (fun r m' => m' = m) := by
  refine Ci.of moJ0_checkIndex_df160 rfl rfl (fun hA hM => ?_)
  show Em Γ (d + 1) MJ0_checkIndex_df160 _ 0 [iv k, iv n] [] m
  refine Ev.iload_n (q := 1) dJ0_checkIndex_df160_0 rfl rfl ?_
  refine Ev.iload_n (q := 2) dJ0_checkIndex_df160_1 rfl rfl ?_
  refine sFmt (q := 5) dJ0_checkIndex_df160_2 (tb3 109 rfl rfl) rfl (fun v hv => ?_)
  refine cS3i (q := 8) (d' := d + 0) dJ0_checkIndex_df160_5 mlJ0_1059 moJ3_checkIndex_8e157 msJ3_checkIndex_8e157 rfl rfl (Nat.le_refl _) rfl rfl rfl (p_J3_checkIndex_8e157 k n v hv hk) (fun r1 m1 e1 => ?_)
  obtain ⟨rfl, e1⟩ := e1
  obtain rfl := e1.symm
  refine Ev.pop (q := 9) dJ0_checkIndex_df160_8 (fun z => by cases z) rfl ?_
  refine rV dJ0_checkIndex_df160_9 rfl ?_
  rfl
set_option maxRecDepth 4000 in
theorem p_J1_charAt_3b067 {Γ : Gm} {d : Nat} {m : Mem} (i k : Nat) (hi : i < nSt) (hk : k < lenS.getD i 0) : Ci Γ (d + 2) MJ1_charAt_3b067 [qv (gV Γ i), iv k] m (fun r m' => r = chS i k ∧ m' = m) := by
  refine Ci.of moJ1_charAt_3b067 rfl rfl (fun hA hM => ?_)
  show Em Γ (d + 2) MJ1_charAt_3b067 _ 0 [qv (gV Γ i), iv k] [] m
  refine Ev.iload_n (q := 1) dJ1_charAt_3b067_0 rfl rfl ?_
  refine qload_0 (q := 2) dJ1_charAt_3b067_1 rfl rfl ?_
  refine sLen (q := 3) hi dJ1_charAt_3b067_2 rfl ?_
  refine cS2v (q := 6) (d' := d + 1) dJ1_charAt_3b067_3 mlJ1_9 moJ0_checkIndex_df160 msJ0_checkIndex_df160 rfl rfl (Nat.le_refl _) rfl rfl rfl (p_J0_checkIndex_df160 _ _ (by omega)) (fun r1 m1 e1 => ?_)
  obtain rfl := e1.symm
  refine qload_0 (q := 7) dJ1_charAt_3b067_6 rfl rfl ?_
  refine Ev.iload_n (q := 8) dJ1_charAt_3b067_7 rfl rfl ?_
  refine sByt (q := 9) (k := k) hi dJ1_charAt_3b067_8 rfl hk rfl ?_
  refine Ev.sipush (q := 12) dJ1_charAt_3b067_9 kh_255 rfl ?_
  refine Ev.iand (q := 13) dJ1_charAt_3b067_12 rfl ?_
  refine Ev.i2c (q := 14) dJ1_charAt_3b067_13 rfl ?_
  rw [((chS_ok i hi).2 k hk).1]
  refine rC dJ1_charAt_3b067_14 rfl (chS_nar hi hk) ?_
  exact ⟨rfl, rfl⟩
set_option maxRecDepth 4000 in
theorem p_J0_charAt_5068e {Γ : Gm} {d : Nat} {m : Mem} (i k : Nat) (hi : i < nSt) (hk : k < lenS.getD i 0) : Ci Γ (d + 3) MJ0_charAt_5068e [rv (100000 + i), iv k] m (fun r m' => r = chS i k ∧ m' = m) := by
  refine Ci.of moJ0_charAt_5068e rfl rfl (fun hA hM => ?_)
  show Em Γ (d + 3) MJ0_charAt_5068e _ 0 [rv (100000 + i), iv k] [] m
  refine Ev.aload_n (q := 1) dJ0_charAt_5068e_0 rfl rfl ?_
  refine cVS (q := 4) (d' := d + 2) (As := []) hi dJ0_charAt_5068e_1 mlJ0_492 moJ0_isLatin1_aae02 mvJ0_isLatin1_aae02 rfl rfl rfl rfl (Nat.le_refl _) rfl rfl rfl (p_J0_isLatin1_aae02 i hi) (fun r1 m1 e1 => ?_)
  obtain ⟨rfl, e1⟩ := e1
  obtain rfl := e1.symm
  refine Ev.if_eq (tgt := 16) (q := 7) dJ0_charAt_5068e_4 (by decide) rfl (fun h1 => by omega) (fun h1 => ?_)
  refine Ev.aload_n (q := 8) dJ0_charAt_5068e_7 rfl rfl ?_
  refine sVal (q := 11) hi dJ0_charAt_5068e_8 (tb9 30 rfl rfl) rfl ?_
  refine Ev.iload_n (q := 12) dJ0_charAt_5068e_11 rfl rfl ?_
  refine cS2i (q := 15) (d' := d + 2) dJ0_charAt_5068e_12 mlJ0_495 moJ1_charAt_3b067 msJ1_charAt_3b067 rfl rfl (Nat.le_refl _) rfl rfl rfl (p_J1_charAt_3b067 i k hi hk) (fun r2 m2 e2 => ?_)
  obtain ⟨rfl, e2⟩ := e2
  obtain rfl := e2.symm
  refine rC dJ0_charAt_5068e_15 rfl (chS_nar hi hk) ?_
  exact ⟨rfl, rfl⟩
