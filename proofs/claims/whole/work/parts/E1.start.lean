/-! ===== the start ===== -/
theorem lt1 {w : Cond} (i : Nat) (h : tables_1_1[i]? = some w) : w ∈ lw_tbl := List.mem_append_right _ (List.mem_append_left _ (List.mem_of_getElem? h))
theorem lt2 {w : Cond} (i : Nat) (h : tables_1_2[i]? = some w) : w ∈ lw_tbl := List.mem_append_right _ (List.mem_append_right _ (List.mem_append_left _ (List.mem_of_getElem? h)))
theorem lt3 {w : Cond} (i : Nat) (h : tables_1_3[i]? = some w) : w ∈ lw_tbl := List.mem_append_right _ (List.mem_append_right _ (List.mem_append_right _ (List.mem_append_left _ (List.mem_of_getElem? h))))
theorem lt4 {w : Cond} (i : Nat) (h : tables_1_4[i]? = some w) : w ∈ lw_tbl := List.mem_append_right _ (List.mem_append_right _ (List.mem_append_right _ (List.mem_append_right _ (List.mem_append_left _ (List.mem_of_getElem? h)))))
theorem lt5 {w : Cond} (i : Nat) (h : tables_1_5[i]? = some w) : w ∈ lw_tbl := List.mem_append_right _ (List.mem_append_right _ (List.mem_append_right _ (List.mem_append_right _ (List.mem_append_right _ (List.mem_append_left _ (List.mem_of_getElem? h))))))
theorem lt6 {w : Cond} (i : Nat) (h : tables_1_6[i]? = some w) : w ∈ lw_tbl := List.mem_append_right _ (List.mem_append_right _ (List.mem_append_right _ (List.mem_append_right _ (List.mem_append_right _ (List.mem_append_right _ (List.mem_append_left _ (List.mem_of_getElem? h)))))))
theorem lt7 {w : Cond} (i : Nat) (h : tables_1_7[i]? = some w) : w ∈ lw_tbl := List.mem_append_right _ (List.mem_append_right _ (List.mem_append_right _ (List.mem_append_right _ (List.mem_append_right _ (List.mem_append_right _ (List.mem_append_right _ (List.mem_append_left _ (List.mem_of_getElem? h))))))))
theorem lt8 {w : Cond} (i : Nat) (h : tables_1_8[i]? = some w) : w ∈ lw_tbl := List.mem_append_right _ (List.mem_append_right _ (List.mem_append_right _ (List.mem_append_right _ (List.mem_append_right _ (List.mem_append_right _ (List.mem_append_right _ (List.mem_append_right _ (List.mem_append_left _ (List.mem_of_getElem? h)))))))))
theorem lt9 {w : Cond} (i : Nat) (h : tables_1_9[i]? = some w) : w ∈ lw_tbl := List.mem_append_right _ (List.mem_append_right _ (List.mem_append_right _ (List.mem_append_right _ (List.mem_append_right _ (List.mem_append_right _ (List.mem_append_right _ (List.mem_append_right _ (List.mem_append_right _ (List.mem_of_getElem? h)))))))))
theorem nws_in : ∀ k, k < 8 → ∀ q, nws[k]? = some q → Cond.methodLinkNest q.1 q.2.1 q.2.2.1 q.2.2.2 ∈ lw_tbl := by
  intro k hk q hq
  match k, hk with
  | 0, _ => cases hq; exact lt1 32 rfl
  | 1, _ => cases hq; exact lt1 38 rfl
  | 2, _ => cases hq; exact lt1 124 rfl
  | 3, _ => cases hq; exact lt1 186 rfl
  | 4, _ => cases hq; exact lt1 214 rfl
  | 5, _ => cases hq; exact lt2 33 rfl
  | 6, _ => cases hq; exact lt2 35 rfl
  | 7, _ => cases hq; exact lt2 205 rfl
  | k + 8, hk => exact absurd hk (by omega)
theorem str_in : ∀ k, k < 21 → ∀ q, strT[k]? = some q → Cond.stringRef q.1 q.2.1 q.2.2 ∈ lw_tbl := by
  intro k hk q hq
  match k, hk with
  | 0, _ => cases hq; exact lt3 72 rfl
  | 1, _ => cases hq; exact lt3 158 rfl
  | 2, _ => cases hq; exact lt3 163 rfl
  | 3, _ => cases hq; exact lt3 168 rfl
  | 4, _ => cases hq; exact lt3 169 rfl
  | 5, _ => cases hq; exact lt3 170 rfl
  | 6, _ => cases hq; exact lt3 175 rfl
  | 7, _ => cases hq; exact lt3 176 rfl
  | 8, _ => cases hq; exact lt3 181 rfl
  | 9, _ => cases hq; exact lt3 186 rfl
  | 10, _ => cases hq; exact lt3 187 rfl
  | 11, _ => cases hq; exact lt3 188 rfl
  | 12, _ => cases hq; exact lt3 189 rfl
  | 13, _ => cases hq; exact lt3 190 rfl
  | 14, _ => cases hq; exact lt3 215 rfl
  | 15, _ => cases hq; exact lt3 216 rfl
  | 16, _ => cases hq; exact lt4 16 rfl
  | 17, _ => cases hq; exact lt4 17 rfl
  | 18, _ => cases hq; exact lt4 22 rfl
  | 19, _ => cases hq; exact lt7 6 rfl
  | 20, _ => cases hq; exact lt7 12 rfl
  | k + 21, hk => exact absurd hk (by omega)
theorem ao4 : Cond.arrayOver (.object RX4) ∈ lw_tbl := lt2 36 rfl
theorem ao9 : Cond.arrayOver (.object RX9) ∈ lw_tbl := lt2 38 rfl
theorem ao1 : Cond.arrayOver (.object RX1) ∈ lw_tbl := lt2 39 rfl
theorem zs_in : Cond.laysStatic "java/lang/String" "COMPACT_STRINGS" "Z" ∈ lw_tbl := lt3 94 rfl
theorem zq_in : Cond.laysStatic "jdk/internal/util/Preconditions" "SIOOBE_FORMATTER" "Ljava/util/function/BiFunction;" ∈ lw_tbl := lt3 110 rfl
theorem arP {args : Array Value} {s : State} {t : FieldType} (h : (Cond.arrayClass t).before args s = true) (hp : ∀ cA, s.vm.findClass ("[" ++ t.toString) = some cA → va_RA s cA t) : ∃ cA : ClassId, ArrOfT s cA t ∧ va_RA s cA t := by
  obtain ⟨cA, kA, comp, h1, h2, h3⟩ := Cond.arrayClass_spec h
  exact ⟨cA, fun n z => ⟨fun k h => (by cases h), kA, h2, comp, h3⟩, hp cA h1⟩
theorem arO {args : Array Value} {s : State} {C : String} (h : (Cond.arrayOver (.object C)).before args s = true) : ∃ cA : ClassId, ArrOfT s cA (.object C) ∧ va_RA s cA (.object C) := by
  obtain ⟨comp, c, k, h1, h2, h3, h4, h5⟩ := Cond.arrayOver_spec h
  exact ⟨c, fun n z => ⟨fun k h => (by cases h), k, h3, comp, h4⟩, k, comp, h3, h4, h1, h5⟩
/-- what holds at the law's entry -/
def lw_At (p : Program) (s : State) (m : MethodId) (meth : Method) (c : Code) (b L : Nat) (xs : Nat → Int32) : Prop :=
  p.tables.exec = Jvm.exec ∧ c.code = code ∧ meth.sig.returnType = ret ∧ c.maxLocals = 4 ∧ s.vm.findClass R_law = some m.cls ∧ (∀ w ∈ lw_tbl, w.before #[Value.ref b] s = true) ∧ va_X b L xs s s.heap ∧ b < s.heap.size ∧ meth.locks = false ∧ (Jvm.Cond.and given_1 narrow_1).before #[Value.ref b] s = true ∧ meth.name = x.name
theorem whole_start {p : Program} {e : Env} {s : State} {m : MethodId} {below : List Frame} {meth : Method} {c : Code} (l : Launch) {b L : Nat} {xs : Nat → Int32} (hL : L ≤ 3072) (C0 : lw_At p s m meth c b L xs) : W p l e room_1 s m #[Value.ref b] below meth c s.heap [] 0 0 (lw_Z below #[Value.ref b] s) (entryFrame m ([Value.ref b] : List Value).toArray 4) := by
  obtain ⟨hx, hb, hr, hml, hown, hts, hX, hbl, hlocks, hgv, hnm⟩ := id C0
  have hts' : ∀ w ∈ tb, w.before #[Value.ref b] s = true := fun w hw => hts w (List.mem_filter.mp hw).1
  have hA : ∀ a : Nat, a < s.heap.size → ¬ (fun q : Nat => s.heap.size ≤ q) a := fun a ha z => absurd z (Nat.not_le.mpr ha)
  have hF : ∀ (k : Nat) (w : Cond), nF[k]? = some w → w.before #[Value.ref b] s = true := fun k w hw => flat_of_before _ hgv w (List.mem_of_getElem? hw)
  obtain ⟨adK, adV, hS, hev⟩ := st_S (A := fun q : Nat => s.heap.size ≤ q) hgv hA
  have h0 : ∀ k : Nat, ∃ r : ClassId × (Nat → Nat), ∀ q : vw_C, vwCl[k]? = some q → u_Kn s q.1 q.2.1 q.2.2 r.1 r.2 := by
    intro k
    match k with
      | 0 => obtain ⟨c, iS, hk⟩ := u_known (args := #[Value.ref b]) hts' ck0.2.1 (hts' _ kiX0); exact ⟨(c, iS), fun q hq => by cases hq; exact hk⟩
      | 1 => obtain ⟨c, iS, hk⟩ := u_known (args := #[Value.ref b]) hts' ck1.2.1 (hts' _ kiX1); exact ⟨(c, iS), fun q hq => by cases hq; exact hk⟩
      | 2 => obtain ⟨c, iS, hk⟩ := u_known (args := #[Value.ref b]) hts' ck2.2.1 (hts' _ kiX2); exact ⟨(c, iS), fun q hq => by cases hq; exact hk⟩
      | 3 => obtain ⟨c, iS, hk⟩ := u_known (args := #[Value.ref b]) hts' ck3.2.1 (hts' _ kiX3); exact ⟨(c, iS), fun q hq => by cases hq; exact hk⟩
      | 4 => obtain ⟨c, iS, hk⟩ := u_known (args := #[Value.ref b]) hts' ck4.2.1 (hts' _ kiX4); exact ⟨(c, iS), fun q hq => by cases hq; exact hk⟩
      | 5 => obtain ⟨c, iS, hk⟩ := u_known (args := #[Value.ref b]) hts' ck5.2.1 (hts' _ kiX5); exact ⟨(c, iS), fun q hq => by cases hq; exact hk⟩
      | 6 => obtain ⟨c, iS, hk⟩ := u_known (args := #[Value.ref b]) hts' ck6.2.1 (hts' _ kiX6); exact ⟨(c, iS), fun q hq => by cases hq; exact hk⟩
      | 7 => obtain ⟨c, iS, hk⟩ := u_known (args := #[Value.ref b]) hts' ck7.2.1 (hts' _ kiX7); exact ⟨(c, iS), fun q hq => by cases hq; exact hk⟩
      | 8 => obtain ⟨c, iS, hk⟩ := u_known (args := #[Value.ref b]) hts' ck8.2.1 (hts' _ kiX8); exact ⟨(c, iS), fun q hq => by cases hq; exact hk⟩
      | 9 => obtain ⟨c, iS, hk⟩ := u_known (args := #[Value.ref b]) hts' ck9.2.1 (hts' _ kiX9); exact ⟨(c, iS), fun q hq => by cases hq; exact hk⟩
      | 10 => obtain ⟨c, iS, hk⟩ := u_known (args := #[Value.ref b]) hts' ck10.2.1 (hts' _ kiX10); exact ⟨(c, iS), fun q hq => by cases hq; exact hk⟩
      | 11 => obtain ⟨c, iS, hk⟩ := u_known (args := #[Value.ref b]) hts' ck11.2.1 (hts' _ kiX11); exact ⟨(c, iS), fun q hq => by cases hq; exact hk⟩
      | 12 => obtain ⟨c, iS, hk⟩ := u_known (args := #[Value.ref b]) hts' ck12.2.1 (hts' _ kiX12); exact ⟨(c, iS), fun q hq => by cases hq; exact hk⟩
      | k + 13 => exact ⟨(0, fun _ => 0), fun q hq => by simp [vwCl] at hq⟩
  obtain ⟨rr, hrr⟩ := Classical.axiomOfChoice h0
  have h1 : ∀ k : Nat, ∃ cA : ClassId, (1 ≤ k ∧ k ≤ 7) → ArrOfT s cA (ety k) ∧ va_RA s cA (ety k) := by
    intro k
    match k with
      | 0 => exact ⟨0, fun z => absurd z.1 (by decide)⟩
      | 1 => obtain ⟨cA, h⟩ := arP (hts' _ ka_int) (fun cA h => h); exact ⟨cA, fun _ => h⟩
      | 2 => obtain ⟨cA, h⟩ := arP (hts' _ ka_byte) (fun cA h => h); exact ⟨cA, fun _ => h⟩
      | 3 => obtain ⟨cA, h⟩ := arP (hts' _ ka_boolean) (fun cA h => h); exact ⟨cA, fun _ => h⟩
      | 4 => obtain ⟨cA, h⟩ := arP (hts' _ ka_long) (fun cA h => h); exact ⟨cA, fun _ => h⟩
      | 5 => obtain ⟨cA, h⟩ := arO (hts _ ao4); exact ⟨cA, fun _ => h⟩
      | 6 => obtain ⟨cA, h⟩ := arO (hts _ ao9); exact ⟨cA, fun _ => h⟩
      | 7 => obtain ⟨cA, h⟩ := arO (hts _ ao1); exact ⟨cA, fun _ => h⟩
      | k + 8 => exact ⟨0, fun z => absurd z.2 (by omega)⟩
  obtain ⟨cA, hcA⟩ := Classical.axiomOfChoice h1
  obtain ⟨Γ, hΓ⟩ : ∃ Γ : Gm, Γ = (l, s.heap.size, (fun k => (rr k).1, fun k => (rr k).2), cA, adK, adV) := ⟨_, rfl⟩
  have gbe : gb Γ = s.heap.size := by rw [hΓ]; rfl
  have bAe : bA Γ = fun q : Nat => s.heap.size ≤ q := by unfold bA; rw [gbe]
  have hWK : WK Γ s := by
    rw [hΓ]
    refine ⟨fun k q hq => hrr k q hq, fun k q hq => ?_⟩
    match k with
      | 0 => cases hq; exact hcA 1 (by decide)
      | 1 => cases hq; exact hcA 2 (by decide)
      | 2 => cases hq; exact hcA 3 (by decide)
      | 3 => cases hq; exact hcA 4 (by decide)
      | 4 => cases hq; exact hcA 5 (by decide)
      | 5 => cases hq; exact hcA 6 (by decide)
      | 6 => cases hq; exact hcA 7 (by decide)
      | k + 7 => simp [tys] at hq
  have hSK : SK Γ s s.heap := by
    unfold SK
    rw [bAe]
    refine ⟨by rw [hΓ]; exact hS, ⟨va_Zof (hts _ zs_in) (hts' _ kzJ0) (va_eqt (hF _ _ nF_z)) hA, va_Zqof (hts _ zq_in) (hts' _ kzJ3) (hF _ _ nF_q) hA⟩, ⟨fun q hq => ?_, va_AO.of (hts _ ao4), va_AO.of (hts _ ao9), va_AO.of (hts _ ao1)⟩, fun i q hq => ?_⟩
    · obtain ⟨k, hk⟩ := List.getElem?_of_mem hq
      exact va_Nw.of rfl (hts _ (nws_in k (List.getElem?_eq_some_iff.mp hk).1 q hk))
    · have hi : i < 21 := (List.getElem?_eq_some_iff.mp hq).1
      have h9 := hev i hi
      unfold tmS at h9
      rw [hq] at h9
      rw [hΓ]
      exact vk_R.of (hts _ (str_in i hi q hq)) h9
  have hCx : Cx Γ ML p s m #[Value.ref b] meth c := ⟨hx, hb, hr, hlocks, hml, hown, hnm, hts', hWK, hSK, Nat.le_of_eq gbe⟩
  refine W_room (R' := rmm 1312 600000 7302250) (by decide) (by decide) (by decide) (by decide) ?_
  rw [lg_entry_eq]
  have hE := law_Ex (bs := b) (xs := xs) (Γ := Γ) hL (okL_cons (okV_qv b) (okL_cons okV_uv (okL_cons okV_uv (okL_cons okV_uv okL_nil)))) okL_nil okM_m00 p e s m #[Value.ref b] below meth c s.heap [] _ ⟨hX, hbl, gbe⟩ hCx va_S.rf ⟨by rw [gbe], fun k q hq => by unfold wl at hq; simp at hq⟩ (LOk_entry Γ (As := [qv b]) (n := 4) (fun v hv => by rw [List.mem_singleton.mp hv]; exact (by decide : (5 : Nat) ≠ 0)) (Nat.le_of_ble_eq_true rfl))
  have hl : gl Γ = l := by rw [hΓ]; rfl
  rw [hl] at hE
  exact hE
