/-! ===== objects are made ===== -/
theorem obI : Cond.instanceMethod objectInit ∈ tb := tb1 28 rfl rfl
theorem obC : Cond.code objectInit { data := #[177] } 1 none ∈ tb := tb1 29 rfl rfl
section MAKE2
variable {Γ : Gm} {d : Nat} {M : Mth} {b : Bd} {Po : Pos} {pc q : Nat} {L st : List Vl} {g : Gh} {m : Mem}
theorem Ev.objI {a idx : Nat} (hdg : decode (Mc M) pc = .ok (.invokespecial idx, 3)) (hl : Cond.methodLink (Mo M) idx objectInit ∈ tb) (hd : 1 ≤ d) (hs : catS st ≤ 8) (hq : pc + 3 = q) (kk : Ev Γ d M b Po q L st g m) : Ev Γ d M b Po pc L (rv a :: st) g m := by
  subst hq
  intro hL hst hm p e s mi args below meth cd H locs ls C hS hW hlo
  obtain ⟨hxx, hb, hr, hlk, hml, hown, hnm, hts, hKs, hSK, hsz⟩ := id C
  have hk := kk hL (okL_tl hst) hm p e s mi args below meth cd H locs ls C hS hW hlo
  refine W.objInit (cc := Mc M) (a := ad Γ a) (rest := st.map (conc Γ)) hxx hb hown (hts _ hl) (hts _ obI) (hts _ obC) rfl ?_ rfl hdg hd ?_ hk
  · rw [hml]; exact hlo.1
  · have h8 : 2 * (F0 mi pc ls (Value.ref (ad Γ a) :: st.map (conc Γ))).monitorRoom + ((st.map (conc Γ)).map fun v => v.category).sum ≤ 8 := lv_room (by rw [catS_eq]; exact hs)
    show 2 * (F0 mi pc ls (Value.ref (ad Γ a) :: st.map (conc Γ))).monitorRoom + ((st.map (conc Γ)).map fun v => v.category).sum + 12 ≤ 64 * d
    omega
theorem Ev.newc {ci idx : Nat} {Cn : String} {T : u_T} {N : Nat} {ty : Nat → FieldType} (hdg : decode (Mc M) pc = .ok (.new idx, 3)) (hCK : CK ci Cn T N ty) (hcl : Cond.classLink (Mo M) idx Cn ∈ tb) (hinst : Cond.instantiable Cn N ∈ tb) (hini : Cond.initialized Cn ∈ tb) (hK : K g.1 = (0, ci)) (hz : ∀ j, (fty ci j = 9 → m g.1 j < 0) ∧ (fty ci j ≠ 9 → m g.1 j = 0)) (hS0 : ∀ j, g.2 g.1 j = false) (hb1 : b.2.2.1 + 1 ≤ b.1) (hb2 : b.2.2.2 + N ≤ b.2.1) (hq : pc + 3 = q) (kk : Ev Γ d M (b.1, b.2.1, b.2.2.1 + 1, b.2.2.2 + N) Po q L (rv g.1 :: st) (g.1 + 1, g.2) m) : Ev Γ d M b Po pc L st g m := by
  subst hq
  intro hL hst hm p e s mi args below meth cd H locs ls C hS hW hlo T0 hT X
  obtain ⟨hxx, hb, hr, hlk, hml, hown, hnm, hts, hKs, hSK, hsz⟩ := id C
  have hz9 := size_of X hT hS hW hsz
  obtain ⟨hc, hin, hty, hnms⟩ := hCK
  have hKn := hKs.1 ci _ hc
  suffices key : W p (gl Γ) e (rmm d b.1 b.2.1) s mi args below meth cd H locs b.2.2.1 b.2.2.2 (MQ below (QcE Γ M Po) args s b.1 b.2.1 (bA Γ)) (F0 mi pc ls (st.map (conc Γ))) from key T0 hT X
  refine W.newcK (cc := Mc M) (h := gb Γ + g.1) hxx hb hown (hts _ hcl) (hts _ hinst) (hts _ hini) rfl hdg hb1 hb2 hKn.2.1 hz9.symm (fun H1 kC hkC e1 z1 o1 => ?_)
  have hk := kk hL (okL_cons (okV_rv _) hst) hm p e s mi args below meth cd H1 locs ls C ⟨by have := hS.1; omega, fun q h1 h2 => (o1 q (by have := hS.1; omega)).trans (hS.2.1 q h1 h2), hS.2.2⟩ ⟨by have := hW.1; show gb Γ + (g.1 + 1) = s.heap.size + (b.2.2.1 + 1); omega, Wo.push hW.2 (fun q hq => o1 q (by omega)) ?_⟩ hlo
  · rw [List.map_cons, conc_cell Γ hK (by decide)] at hk
    exact hk
  · rw [cellE_obj Γ g.2 m hK]
    refine ⟨_, hc, (u_born ty hts hin hKn hkC e1 hty).to (fun j hj => ?_)⟩
    obtain ⟨hN, htc, -⟩ := fld_ok hc hj (hty j hj)
    have hv : vp_V (flds Γ g.2 m g.1 ci) j = fval Γ g.2 m g.1 j (fty ci j) := by
      unfold vp_V flds
      rw [List.getD_eq_getElem?_getD, List.getElem?_map, List.getElem?_range (by rw [← hN]; exact hj)]
      rfl
    rw [hv]
    have hz1 := hz j
    have hs1 := hS0 j
    obtain ⟨t0, ht0⟩ : ∃ t0, ty j = t0 := ⟨_, rfl⟩
    obtain ⟨f0, hf0⟩ : ∃ f0, fty ci j = f0 := ⟨_, rfl⟩
    rw [ht0, hf0] at htc
    rw [hf0] at hz1
    rw [ht0, hf0]
    unfold fval
    by_cases h4 : f0 = 4
    · subst h4
      rw [if_pos rfl, hz1.2 (by decide), i64_z]
      cases t0 <;> first | rfl | cases htc
    · rw [if_neg h4]
      by_cases h8 : f0 = 8
      · subst h8
        rw [if_pos rfl, hs1]
        cases t0 <;> first | rfl | cases htc
      · rw [if_neg h8]
        by_cases h99 : f0 = 9
        · subst h99
          rw [if_pos rfl, if_pos (hz1.1 rfl)]
          cases t0 <;> first | rfl | cases htc
        · rw [if_neg h99, hz1.2 h99, i32_z]
          cases t0 <;> first | rfl | (unfold tyc at htc; split at htc <;> first | contradiction | rfl)
end MAKE2
