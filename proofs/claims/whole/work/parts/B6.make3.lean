/-! ===== rows of objects, constructors ===== -/
section MAKE3
variable {Γ : Gm} {d : Nat} {M : Mth} {b : Bd} {Po : Pos} {pc q : Nat} {L st : List Vl} {g : Gh} {m : Mem}
theorem cont_q (Γ : Gm) (S : Nat → Nat → Bool) (m : Mem) {a c : Nat} (hc : 5 ≤ c) : cont Γ S m a c = .inr (.inr (.inr (.inr (fun j => if S a j = true then some (ad Γ (rf a j)) else none)))) := by
  unfold cont
  rw [if_neg (by omega), if_neg (by omega)]
theorem Ev.newq {idx c n : Nat} {x : Int} {Cn : String} (hdg : decode (Mc M) pc = .ok (.anewarray idx, 3)) (hcl : Cond.classLink (Mo M) idx Cn ∈ tb) (hAO : ∀ U, NK U → va_AO Cn U) (hK : K g.1 = (c, n)) (h57 : 5 ≤ c ∧ c ≤ 7) (ht : ety c = .object Cn) (hx : x = (n : Int)) (hn : n < 100000) (hS0 : ∀ j, g.2 g.1 j = false) (hb1 : b.2.2.1 + 1 ≤ b.1) (hb2 : b.2.2.2 + n ≤ b.2.1) (hq : pc + 3 = q) (kk : Ev Γ d M (b.1, b.2.1, b.2.2.1 + 1, b.2.2.2 + n) Po q L (rv g.1 :: st) (g.1 + 1, g.2) m) : Ev Γ d M b Po pc L (iv x :: st) g m := by
  subst hq
  subst hx
  intro hL hst hm p e s mi args below meth cd H locs ls C hS hW hl T hT X
  obtain ⟨hxx, hb, hr, hlk, hml, hown, hnm, hts, hKs, hSK, hsz⟩ := id C
  have hz9 := size_of X hT hS hW hsz
  have hw : w32 (n : Int) = n := w32_of (by omega) (by omega)
  have hnn : (Int32.ofInt (n : Int)).toNatClampNeg = n := by rw [i32_nat hw, Int.toNat_natCast]
  suffices key : W p (gl Γ) e (rmm d b.1 b.2.1) s mi args below meth cd H locs b.2.2.1 b.2.2.2 (MQ below (QcE Γ M Po) args s b.1 b.2.1 (bA Γ)) (F0 mi pc ls ((iv (n : Int) :: st).map (conc Γ))) from key T hT X
  refine W.anew (cc := Mc M) (n := Int32.ofInt (n : Int)) (rest := st.map (conc Γ)) hxx hb hown (hts _ hcl) (va_AO.use (hAO _ hSK.2.2.1)) rfl hdg rfl ?_ ?_ hb1 ?_ (fun cA kA comp f1 f2 f3 f4 => ?_)
  · rw [← i32_z, i32_lt hw w0]
    omega
  · rw [hnn]; omega
  · rw [hnn]; exact hb2
  · rw [hnn]
    generalize hH1 : H.push ({ cls := cA, slots := Array.replicate n .null, vm := .none } : Cell) = H1
    have z1 : H1.size = H.size + 1 := by rw [← hH1, Array.size_push]
    have e1 : H1[H.size]? = some (arrV cA n (fun _ => .null)) := by rw [← hH1, Array.getElem?_push_size, ← arrV_new]
    have o1 : ∀ q : Nat, q < H.size → H1[q]? = H[q]? := fun q hq => by rw [← hH1, Array.getElem?_push, if_neg (Nat.ne_of_lt hq)]
    have hRA := (hKs.2 (c - 1) _ (tys_at Γ (show 1 ≤ c ∧ c ≤ 7 by omega))).2
    have hcA : cA = gA Γ c := by
      rw [ht] at hRA
      obtain ⟨kA', comp', r1, r2, r3, r4⟩ := hRA
      exact Option.some.inj (f1.symm.trans r4)
    subst hcA
    have hk := kk hL (okL_cons (okV_rv _) (okL_tl hst)) hm p e s mi args below meth cd H1 locs ls C ⟨by have := hS.1; omega, fun q h1 h2 => (o1 q (by have := hS.1; omega)).trans (hS.2.1 q h1 h2), hS.2.2⟩ ⟨by have := hW.1; show gb Γ + (g.1 + 1) = s.heap.size + (b.2.2.1 + 1); omega, Wo.push hW.2 o1 ?_⟩ hl
    · rw [List.map_cons, conc_cell Γ hK (by omega), hz9] at hk
      exact hk
    · rw [cellE_arr Γ g.2 m hK (by omega), hz9]
      show H1[H.size]? = some (vp_cell (gA Γ c) (n, cont Γ g.2 m g.1 c))
      rw [e1, cont_q Γ g.2 m h57.1, vp_cell_q]
      simp only [hS0]
      rfl
theorem Ev.aast {a c n k ci r : Nat} {x : Int} {rc : vw_C} (hdg : decode (Mc M) pc = .ok (.aastore, 1)) (hK : K a = (c, n)) (h57 : 5 ≤ c ∧ c ≤ 7) (hn : a < g.1) (hKr : K r = (0, ci)) (hnr : r < g.1) (hc : vwCl[ci]? = some rc) (ht : ety c = .object rc.1) (hx : x = (k : Int)) (hk : k < n) (hr : rf a k = r) (hq : pc + 1 = q) (kk : Ev Γ d M b Po q L st (g.1, fun x y => if x = a ∧ y = k then true else g.2 x y) m) : Ev Γ d M b Po pc L (rv r :: iv x :: rv a :: st) g m := by
  subst hq
  subst hx
  intro hL hst hm p e s mi args below meth cd H locs ls C hS hW hl
  obtain ⟨hxx, hb, hrt, hlk, hml, hown, hnm, hts, hKs, hSK, hsz⟩ := id C
  have hx := okV_i (okL_hd (okL_tl hst))
  have he := wl_at Γ g m hn
  rw [cellE_arr Γ g.2 m hK (by omega), cont_q Γ g.2 m h57.1] at he
  have her := wl_at Γ g m hnr
  rw [cellE_obj Γ g.2 m hKr] at her
  have htt := tys_at Γ (c := c) (by omega)
  rw [ht] at htt
  rw [List.map_cons, List.map_cons, List.map_cons, conc_cell Γ hK (by omega), conc_cell Γ hKr (by decide), conc_iv]
  refine va_astq hxx hb hKs hW.2 (wl_D Γ g m) hS a (c - 1) r ci he htt her hc (i32_in hx ⟨by omega, by omega⟩) hdg (fun H1 locs1 hP1 hD1 hS1 => ?_)
  refine kk hL (okL_tl (okL_tl (okL_tl hst))) hm p e s mi args below meth cd H1 locs1 ls C hS1 ?_ hl
  refine WoS.up Γ hW hP1 (S' := fun x y => if x = a ∧ y = k then true else g.2 x y) ?_ (fun c hc => ⟨rfl, funext fun y => if_neg (fun z => hc z.1)⟩)
  rw [cellE_arr Γ _ m hK (by omega), cont_q Γ _ m h57.1, i32_nat hx, Int.toNat_natCast]
  have hf : (fun j => if (fun x y => if x = a ∧ y = k then true else g.2 x y) a j = true then some (ad Γ (rf a j)) else none) = va_up (fun j => if g.2 a j = true then some (ad Γ (rf a j)) else none) k (some (gb Γ + r)) := by
    funext j
    by_cases e : j = k
    · subst e
      rw [va_up_self]
      simp [hr, ad_cell Γ hKr (by decide)]
    · rw [va_up_ne _ _ e]
      simp [e]
  rw [hf]
theorem Ev.callI {M' : Mth} {d' a idx mc' ms' : Nat} {As rest : List Vl} {Po' : Pos} (hdg : decode (Mc M) pc = .ok (.invokespecial idx, 3)) (hl : Cond.methodLink (Mo M) idx (My M') ∈ tb) (hok : MOk M') (hv : MIn M') (hret : Mr M' = none) (hlen : As.length = Mp M') (hst : st = As.reverse ++ rv a :: rest) (hsum : catS rest ≤ 8) (hd : d' + 1 ≤ d) (h45 : Mn M' ≤ 45) (hb1 : b.2.2.1 + mc' ≤ b.1) (hb2 : b.2.2.2 + ms' ≤ b.2.1)
    (hc : Cl Γ d' M' mc' ms' (rv a :: As) g m Po') (hg : ∀ v g' m', Po' v g' m' → g'.1 = g.1 + mc') (hq : pc + 3 = q) (k : ∀ v g' m', v.1 = rtag (Mr M') → Po' v g' m' → Ev Γ d M (b.1, b.2.1, b.2.2.1 + mc', b.2.2.2 + ms') Po q L (psh v rest) g' m') : Ev Γ d M b Po pc L st g m := by
  subst hq
  subst hst
  intro hL hst hm p e s mi args below meth c H locs ls C hS hW hlo
  obtain ⟨hx, hb, hr, hlk, hml, hown, hnm, hts, hKs, hSK, hsz⟩ := id C
  have hrest : okL rest := fun w hw => hst w (List.mem_append_right _ (List.mem_cons_of_mem _ hw))
  have hAs : okL (rv a :: As) := okL_cons (okV_rv a) (fun w hw => hst w (List.mem_append_left _ (List.mem_reverse.mpr hw)))
  refine run_ev (M' := M') (Po' := Po') (mc' := mc') (ms' := ms') (rest := rest) (av := (Value.ref (ad Γ a) :: As.map (conc Γ)).toArray) hL hrest C hS hW hlo (fun hz => ?_) hg k
  have hcb := callB (mc' := mc') (ms' := ms') (b := b) (M := M) (M' := M') (d := d) (d' := d') (s := s) (args := args) hok hts hl hd h45
  rw [hret] at hcb
  refine va_runI (As := As.map (conc Γ)) (b := ad Γ a) (Pc := PcE Γ (rv a :: As) g m) ⟨hx, hb, hml, hown, hts⟩ hc ⟨hcb, hv.2, hts _ hv.1⟩ ⟨PcE.blind _ _ _ _, pre_of hS hW hKs hSK hAs hm hz⟩ rfl (by rw [List.length_map]; exact hlen) hlo.1 ?_ (lv_room (by rw [catS_eq]; exact hsum)) hdg ⟨hb1, hb2⟩
  show (As.reverse ++ rv a :: rest).map (conc Γ) = _
  rw [List.map_append, List.map_reverse, List.map_cons, conc_rv]
end MAKE3
