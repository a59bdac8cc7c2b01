/-! ===== constructors of nest mates ===== -/
section NEST
variable {Γ : Gm} {d : Nat} {M : Mth} {b : Bd} {Po : Pos} {pc q : Nat} {L st : List Vl} {g : Gh} {m : Mem}
theorem callN {M' : Mth} {d' mc' ms' idx : Nat} {host : String} {s : State} {args : Array Value} (hok : MOk M') (hts : ∀ w ∈ tb, w.before args s = true) (hl : va_Nw (.methodLinkNest (Mo M) idx (My M') host) s) (hd : d' + 1 ≤ d) (h45 : Mn M' ≤ 45) : va_CN (rmm d b.1 b.2.1) s args (Mo M) idx (My M') host (Mc M') (Mn M') (Mr M') (wsM M') (rmm d' mc' ms') mc' ms' (Mp M') := by
  obtain ⟨hcode, hini, hdn, hpl, hcls⟩ := id hok
  refine ⟨⟨rfl, rfl, hd, ?_, tb_warm hok hts, List.mem_cons_self⟩, hts _ hcode, by rw [hcls]; exact hts _ hini, by rw [hcls]; exact ⟨hdn.1, hdn.2.1⟩, fun sig h => ?_, va_Nw.use rfl hl⟩
  · show 8 + (Mn M' + 11) + 64 * d' ≤ 64 * d
    omega
  · have h2 := hdn.2.2
    rw [h] at h2
    exact (Option.some.inj h2).symm
theorem Ev.callIN {M' : Mth} {d' a idx mc' ms' : Nat} {host : String} {As rest : List Vl} {Po' : Pos} (hdg : decode (Mc M) pc = .ok (.invokespecial idx, 3)) (hl : (Mo M, idx, My M', host) ∈ nws) (hok : MOk M') (hv : MIn M') (hret : Mr M' = none) (hlen : As.length = Mp M') (hst : st = As.reverse ++ rv a :: rest) (hsum : catS rest ≤ 8) (hd : d' + 1 ≤ d) (h45 : Mn M' ≤ 45) (hb1 : b.2.2.1 + mc' ≤ b.1) (hb2 : b.2.2.2 + ms' ≤ b.2.1)
    (hc : Cl Γ d' M' mc' ms' (rv a :: As) g m Po') (hg : ∀ v g' m', Po' v g' m' → g'.1 = g.1 + mc') (hq : pc + 3 = q) (k : ∀ v g' m', v.1 = rtag (Mr M') → Po' v g' m' → Ev Γ d M (b.1, b.2.1, b.2.2.1 + mc', b.2.2.2 + ms') Po q L (psh v rest) g' m') : Ev Γ d M b Po pc L st g m := by
  subst hq
  subst hst
  intro hL hst hm p e s mi args below meth c H locs ls C hS hW hlo
  obtain ⟨hx, hb, hr, hlk, hml, hown, hnm, hts, hKs, hSK, hsz⟩ := id C
  have hrest : okL rest := fun w hw => hst w (List.mem_append_right _ (List.mem_cons_of_mem _ hw))
  have hAs : okL (rv a :: As) := okL_cons (okV_rv a) (fun w hw => hst w (List.mem_append_left _ (List.mem_reverse.mpr hw)))
  refine run_ev (M' := M') (Po' := Po') (mc' := mc') (ms' := ms') (rest := rest) (av := (Value.ref (ad Γ a) :: As.map (conc Γ)).toArray) hL hrest C hS hW hlo (fun hz => ?_) hg k
  have hcb := callN (mc' := mc') (ms' := ms') (b := b) (M := M) (M' := M') (d := d) (d' := d') (s := s) (args := args) (host := host) (idx := idx) hok hts (hSK.2.2.1.1 _ hl) hd h45
  rw [hret] at hcb
  refine va_runIN (host := host) (As := As.map (conc Γ)) (b := ad Γ a) (Pc := PcE Γ (rv a :: As) g m) ⟨hx, hb, hml, hown, hts⟩ hc ⟨hcb, hv.2, hts _ hv.1⟩ ⟨PcE.blind _ _ _ _, pre_of hS hW hKs hSK hAs hm hz⟩ rfl (by rw [List.length_map]; exact hlen) hlo.1 ?_ (lv_room (by rw [catS_eq]; exact hsum)) hdg ⟨hb1, hb2⟩
  show (As.reverse ++ rv a :: rest).map (conc Γ) = _
  rw [List.map_append, List.map_reverse, List.map_cons, conc_rv]
end NEST
