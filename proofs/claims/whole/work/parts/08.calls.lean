/-! ===== entry: a contract out of a walk ===== -/
theorem Met_ofF {l : Launch} {y : MethodName} {ws ws' : List Cond} {rm : Room} {Pc : Array Value → State → Prop} {Qc : Array Value → State → Outcome → State → Prop} {mc ms : Nat} {free : Addr → Prop} {cc : ByteArray} {maxL : Nat} {ret : Option FieldType}
    (hy : plainFor y = true) (hw : ws = Cond.code y cc maxL ret :: ws')
    (body : ∀ p e s m args below meth c s₁, BodyLoose p l y (headSpec ws rm) cc maxL ret e s m args below meth c s₁ → c.maxLocals = maxL → Pc args s →
      W p l e (headSpec ws rm).room s m args below meth c s.heap [] 0 0 (MQ below Qc args s mc ms free) (entryFrame m args maxL)) : Met l y ws rm Pc Qc mc ms free := by
  refine MetFree.of_bodySF (code := cc) (maxLocals := maxL) (ret := ret) hy ?_ ?_
  · intro args s m h hn
    obtain ⟨meth, c, h1, h2, h3, h4, h5, h6, -, -⟩ := Cond.code_spec hn (atoms_spec (ws := ws) h _ (by rw [hw]; exact List.mem_cons_self))
    exact ⟨meth, c, h1, h2, h3, h4, h5, h6⟩
  · intro p e s m args below meth c s₁ B hml hP _
    have hh0 : s₁.heap = s.heap := by rw [B.state]; rfl
    obtain ⟨t, a1, o, b1, b2, b3⟩ := body p e s m args below meth c s₁ B hml hP s₁ hh0 (Stand.of_body B)
    exact ⟨t, o, a1, b1, b2, ⟨b3.1, b3.2⟩⟩
def flatA (As : List Vl) : List Vl := As.flatMap fun v => if v.1 = 2 then [v, uv] else [v]
def entL (n : Nat) (As : List Vl) : List Vl := flatA As ++ List.replicate (n - (flatA As).length) uv
theorem flatA_sl (Γ : Gm) : ∀ (As : List Vl), (∀ v ∈ As, v.1 ≠ 0) → lg_sl (As.map (conc Γ)) = (flatA As).map (fun v => if v.1 = 0 then Slot.second else Slot.val (conc Γ v))
  | [], _ => rfl
  | v :: t, h => by
    have ih := flatA_sl Γ t (fun w hw => h w (List.mem_cons_of_mem _ hw))
    have hv := h v List.mem_cons_self
    unfold lg_sl flatA at ih ⊢
    rw [List.map_cons, List.flatMap_cons, List.flatMap_cons, List.map_append, ih]
    congr 1
    by_cases h2 : v.1 = 2
    · rw [if_pos (conc_cat2 h2), if_pos h2]
      simp [h2, uv]
    · rw [if_neg (by rw [conc_cat h2]; decide), if_neg h2]
      simp [hv]
theorem LOk_entry (Γ : Gm) {As : List Vl} {n : Nat} (h0 : ∀ v ∈ As, v.1 ≠ 0) (hn : (flatA As).length ≤ n) : LOk Γ ((lg_sl (As.map (conc Γ)) ++ List.replicate (n - (lg_sl (As.map (conc Γ))).length) Slot.unset).toArray) n (entL n As) := by
  have hl : (lg_sl (As.map (conc Γ))).length = (flatA As).length := by rw [flatA_sl Γ As h0, List.length_map]
  have hh := lv_entry (As.map (conc Γ)) (n := n) (by rw [hl]; exact hn)
  refine ⟨hh.1, hh.2.1, by unfold entL; simp; omega, fun i v hi hv => ?_⟩
  unfold entL at hi
  by_cases hlt : i < (flatA As).length
  · rw [List.getElem?_append_left hlt] at hi
    rw [List.getElem?_toArray, List.getElem?_append_left (by rw [hl]; exact hlt), flatA_sl Γ As h0, List.getElem?_map, hi]
    simp [hv]
  · rw [List.getElem?_append_right (by omega)] at hi
    have := List.mem_of_getElem? hi
    rw [List.mem_replicate] at this
    exact absurd (by rw [this.2]; rfl) hv
theorem okL_ent {n : Nat} {As : List Vl} (h : okL As) : okL (entL n As) := by
  unfold entL
  refine okL_app (fun w hw => ?_) (fun w hw => ?_)
  · unfold flatA at hw
    obtain ⟨v, hv, hw⟩ := List.mem_flatMap.mp hw
    split at hw
    · rcases List.mem_cons.mp hw with rfl | hw
      · exact h _ hv
      · rw [List.mem_singleton.mp hw]; exact okV_uv
    · rw [List.mem_singleton.mp hw]; exact h _ hv
  · rw [(List.mem_replicate.mp hw).2]; exact okV_uv
theorem Cl.of {Γ : Gm} {d mc ms : Nat} {M : Mth} {As : List Vl} {g : Gh} {m : Mem} {Po : Pos} (hok : MOk M) (h0 : ∀ v ∈ As, v.1 ≠ 0) (hn : (flatA As).length ≤ Mn M) (ev : Ev Γ d M (mc, ms, 0, 0) Po 0 (entL (Mn M) As) [] g m) : Cl Γ d M mc ms As g m Po := by
  obtain ⟨hcode, hini, hd, hpl, hcls⟩ := hok
  refine Met_ofF (cc := Mc M) (maxL := Mn M) (ret := Mr M) hpl rfl ?_
  intro p e s mi args below meth c s₁ B hml hv
  obtain ⟨rfl, hsz, hWo, hK, hSK, hokA, hokM⟩ := hv
  have hts : ∀ w ∈ wsM M, w.before (As.map (conc Γ)).toArray s = true := atoms_spec (ws := wsM M) B.pre
  have hown : s.vm.findClass (My M).cls = some mi.cls := findClass_of_methodNamed B.named
  have hnm : meth.name = (My M).name := (name_of_methodNamed B.named B.method).1
  rw [lg_entry_eq]
  exact ev (okL_ent hokA) okL_nil hokM p e s mi _ below meth c s.heap [] _ ⟨B.exec, B.bytes, B.returns, B.notSynchronized, hml, by rw [← hcls]; exact hown, hnm, fun w hw => hts w (List.mem_cons_of_mem _ hw), hK, hSK, by omega⟩ va_S.rf ⟨hsz, hWo⟩ (LOk_entry Γ h0 hn)
theorem Cl.imp {Γ : Gm} {d mc ms : Nat} {M : Mth} {As : List Vl} {g : Gh} {m : Mem} {Po Po' : Pos} (h : ∀ v g m, Po' v g m → Po v g m) (k : Cl Γ d M mc ms As g m Po') : Cl Γ d M mc ms As g m Po := by
  unfold Cl Met at k ⊢
  intro p e ha hc hk s mi args below hf happ hP hK
  obtain ⟨n, o, h1, h2, h3, ⟨⟨⟨v, g', m', q1, q2⟩, q3⟩, h5⟩⟩ := k p e ha hc hk s mi args below hf happ hP hK
  exact ⟨n, o, h1, h2, h3, ⟨⟨⟨v, g', m', h v g' m' q1, q2⟩, q3⟩, h5⟩⟩
/-! ===== calls ===== -/
theorem NK.warm {s U : State} (hW : s.WarmedH U.vm) (h : NK s) : NK U := ⟨fun q hq => va_Nw.warmM hW (h.1 q hq), va_AO.moved hW.alike h.2.1, va_AO.moved hW.alike h.2.2.1, va_AO.moved hW.alike h.2.2.2⟩
theorem SK.warm {Γ : Gm} {s U : State} {H : Heap} (hW : s.WarmedH U.vm) (h : SK Γ s s.heap) (hk : ∀ a : Nat, a < s.heap.size → ¬ bA Γ a → H[a]? = s.heap[a]?) : SK Γ U H :=
  ⟨vk_S.kept (vk_S.moved hW.alike h.1) hk, ⟨va_Z.kept (va_Z.moved hW.alike h.2.1.1) hk, va_Zq.kept (va_Zq.moved hW.alike h.2.1.2) hk⟩, NK.warm hW h.2.2.1, fun i q hq => vk_R.warm hW (h.2.2.2 i q hq)⟩
theorem PcE.blind (Γ : Gm) (As : List Vl) (g : Gh) (m : Mem) : FrameBlind (PcE Γ As g m) := by
  intro a U fr mk h
  obtain ⟨h1, h2, h3, h4, h5, h6, h7⟩ := h
  refine ⟨h1, h2, h3, va_K.moved (u := U) (U := U.calling fr mk a) (Vm.Alike.refl U.vm) h4, ⟨vk_S.moved (u := U) (U := U.calling fr mk a) (Vm.Alike.refl U.vm) h5.1, ⟨va_Z.moved (u := U) (U := U.calling fr mk a) (Vm.Alike.refl U.vm) h5.2.1.1, va_Zq.moved (u := U) (U := U.calling fr mk a) (Vm.Alike.refl U.vm) h5.2.1.2⟩, ⟨fun q hq => va_Nw.same (u := U) (U := U.calling fr mk a) rfl rfl (h5.2.2.1.1 q hq), va_AO.moved (u := U) (U := U.calling fr mk a) (Vm.Alike.refl U.vm) h5.2.2.1.2.1, va_AO.moved (u := U) (U := U.calling fr mk a) (Vm.Alike.refl U.vm) h5.2.2.1.2.2.1, va_AO.moved (u := U) (U := U.calling fr mk a) (Vm.Alike.refl U.vm) h5.2.2.1.2.2.2⟩, fun i q hq => vk_R.same (u := U) (U := U.calling fr mk a) rfl (h5.2.2.2 i q hq)⟩, h6, h7⟩
theorem tb_warm {M' : Mth} {s : State} {args : Array Value} (hok : MOk M') (hts : ∀ w ∈ tb, w.before args s = true) : ∀ w ∈ wsM M', ∀ (a' : Array Value) (U : State), s.WarmedH U.vm → w.before a' U = true := by
  have key : ∀ w ∈ tb, ∀ (a' : Array Value) (U : State), s.WarmedH U.vm → w.before a' U = true := fun w hw a' U hW => word_at hW (good_of_word (List.mem_filter.mp hw).2) (hts w hw)
  intro w hw
  rcases List.mem_cons.mp hw with rfl | hw
  · exact key _ hok.1
  · exact key w hw
section CALLS
variable {Γ : Gm} {d : Nat} {M : Mth} {b : Bd} {Po : Pos} {pc q : Nat} {L st : List Vl} {g : Gh} {m : Mem}
theorem size_of {p : Program} {l : Launch} {e : Env} {R : Room} {s : State} {mi : MethodId} {args : Array Value} {below : List Frame} {meth : Method} {c : Code} {T : State} {H : Heap} {locs : List Loc} {slots : Nat} (X : Stand p l e R s mi args below meth c T locs b.2.2.1 slots) (hT : T.heap = H) (hS : va_S (bA Γ) s.heap H locs) (hW : WoS Γ g m s b H) (hb : gb Γ ≤ s.heap.size) : gb Γ + g.1 = H.size := by
  have h1 := X.heapSize
  rw [hT] at h1
  have h2 := hS.1
  have h3 := hW.1
  by_cases h0 : g.1 = 0
  · omega
  · have h4 := (hW.2 (g.1 - 1) _ (wl_at Γ g m (by omega))).lt
    have h5 : gb Γ + (g.1 - 1) < H.size := h4
    omega
/-- behind a call -/
theorem run_ev {p : Program} {e : Env} {s : State} {mi : MethodId} {args : Array Value} {below : List Frame} {meth : Method} {c : Code} {H : Heap} {locs : List Loc} {ls : Array Slot} {M' : Mth} {Po' : Pos} {mc' ms' : Nat} {rest : List Vl} {st0 : List Value} {av : Array Value}
    (hL : okL L) (hrest : okL rest) (C : Cx Γ M p s mi args meth c) (hS : va_S (bA Γ) s.heap H locs) (hW : WoS Γ g m s b H) (hl : LOk Γ ls (Mn M) L)
    (run : gb Γ + g.1 = H.size → va_Run p (gl Γ) e (rmm d b.1 b.2.1) s mi args below meth c H locs b.2.2.1 b.2.2.2 mc' ms' (F0 mi pc ls st0) (rest.map (conc Γ)) (QcE Γ M' Po' av) (bA Γ))
    (hg : ∀ v g' m', Po' v g' m' → g'.1 = g.1 + mc')
    (k : ∀ v g' m', v.1 = rtag (Mr M') → Po' v g' m' → Ev Γ d M (b.1, b.2.1, b.2.2.1 + mc', b.2.2.2 + ms') Po (pc + 3) L (psh v rest) g' m') :
    W p (gl Γ) e (rmm d b.1 b.2.1) s mi args below meth c H locs b.2.2.1 b.2.2.2 (MQ below (QcE Γ M Po) args s b.1 b.2.1 (bA Γ)) (F0 mi pc ls st0) := by
  intro T hT X
  have hz := size_of X hT hS hW C.2.2.2.2.2.2.2.2.2.2
  obtain ⟨v, st₀, t, T', Lc, h0, X', hLc, e1, e2, ⟨⟨r, g', m', hpo, hokr, hokm, htag, hv, hWo'⟩, hz1, hk1⟩, step⟩ := run hz T hT X
  have hv : v = rvo Γ r := by cases hv; rfl
  subst hv
  rw [h0] at hz1 hk1
  have hg' := hg r g' m' hpo
  have hpsh : okL (psh r rest) := by
    unfold psh
    split
    · exact hrest
    · exact okL_cons hokr hrest
  have hS' : va_S (bA Γ) s.heap T'.heap (locs ++ Lc) := ⟨Nat.le_trans hS.1 (by rw [e1]; exact hz1), fun q h1 h2 => by rw [e1, hk1 q (Nat.lt_of_lt_of_le h1 hS.1) h2]; exact hS.2.1 q h1 h2, fun q hq => by
    rcases List.mem_append.mp hq with h | h
    · exact hS.2.2 q h
    · exact hLc q h⟩
  have hK := k r g' m' htag hpo hL hpsh hokm p e s mi args below meth c T'.heap (locs ++ Lc) ls C hS' ⟨by have := hW.1; show gb Γ + g'.1 = s.heap.size + (b.2.2.1 + mc'); omega, by rw [e1]; exact hWo'⟩ hl
  rw [← psh_map] at hK
  obtain ⟨t2, a1, b1⟩ := hK T' rfl X'
  exact ⟨t2, step t2 a1, b1⟩
theorem pre_of {s : State} {H : Heap} {locs : List Loc} {As : List Vl} (hS : va_S (bA Γ) s.heap H locs) (hW : WoS Γ g m s b H) (hK : WK Γ s) (hSK : SK Γ s s.heap) (hAs : okL As) (hm : okM m) (hz : gb Γ + g.1 = H.size) : ∀ U : State, U.heap = H → s.WarmedH U.vm → PcE Γ As g m (As.map (conc Γ)).toArray U := by
  intro U hU hWm
  exact ⟨rfl, by rw [hU]; exact hz, by rw [hU]; exact hW.2, va_K.moved hWm.alike hK, by rw [hU]; exact SK.warm hWm hSK hS.2.1, hAs, hm⟩
theorem callB {M' : Mth} {d' mc' ms' idx : Nat} {s : State} {args : Array Value} (hok : MOk M') (hts : ∀ w ∈ tb, w.before args s = true) (hl : Cond.methodLink (Mo M) idx (My M') ∈ tb) (hd : d' + 1 ≤ d) (h45 : Mn M' ≤ 45) : CallB (rmm d b.1 b.2.1) s args (Mo M) idx (My M') (Mc M') (Mn M') (Mr M') (wsM M') (rmm d' mc' ms') mc' ms' (Mp M') := by
  obtain ⟨hcode, hini, hdn, hpl, hcls⟩ := id hok
  refine ⟨rfl, rfl, hd, ?_, tb_warm hok hts, List.mem_cons_self, hts _ hcode, by rw [hcls]; exact hts _ hini, by rw [hcls]; exact ⟨hdn.1, hdn.2.1⟩, fun sig h => ?_, hts _ hl⟩
  · show 8 + (Mn M' + 11) + 64 * d' ≤ 64 * d
    omega
  · have h2 := hdn.2.2
    rw [h] at h2
    exact (Option.some.inj h2).symm
theorem Ev.callV {M' : Mth} {d' a ci idx : Nat} {As rest : List Vl} {Po' : Pos} (hdg : decode (Mc M) pc = .ok (.invokevirtual idx, 3)) (hl : Cond.methodLink (Mo M) idx (My M') ∈ tb) (hok : MOk M') (hv : MVt M') (hK : K a = (0, ci)) (hC : (vwCl[ci]?).map (fun q => q.1) = some (Mo M')) (hn : a < g.1) (hlen : As.length = Mp M') (hst : st = As.reverse ++ rv a :: rest) (hsum : catS rest ≤ 8) (hd : d' + 1 ≤ d) (h45 : Mn M' ≤ 45) (hbd : b.2.2.1 ≤ b.1 ∧ b.2.2.2 ≤ b.2.1)
    (hc : Cl Γ d' M' 0 0 (rv a :: As) g m Po') (hg : ∀ v g' m', Po' v g' m' → g'.1 = g.1) (hq : pc + 3 = q) (k : ∀ v g' m', v.1 = rtag (Mr M') → Po' v g' m' → Ev Γ d M b Po q L (psh v rest) g' m') : Ev Γ d M b Po pc L st g m := by
  subst hq
  subst hst
  intro hL hst hm p e s mi args below meth c H locs ls C hS hW hlo
  obtain ⟨hx, hb, hr, hlk, hml, hown, hnm, hts, hKs, hSK, hsz⟩ := id C
  have hrest : okL rest := fun w hw => hst w (List.mem_append_right _ (List.mem_cons_of_mem _ hw))
  have hAs : okL (rv a :: As) := okL_cons (okV_rv a) (fun w hw => hst w (List.mem_append_left _ (List.mem_reverse.mpr hw)))
  have he := wl_at Γ g m hn
  rw [cellE_obj Γ g.2 m hK] at he
  refine run_ev (M' := M') (Po' := Po') (mc' := 0) (ms' := 0) (rest := rest) (av := (Value.ref (ad Γ a) :: As.map (conc Γ)).toArray) hL hrest C hS hW hlo (fun hz => ?_) hg k
  cases hci : vwCl[ci]? with
  | none => rw [hci] at hC; cases hC
  | some qc =>
    rw [hci] at hC
    have hqc : qc.1 = Mo M' := Option.some.inj hC
    refine va_runV (C := qc.1) (As := As.map (conc Γ)) (b := ad Γ a) (Pc := PcE Γ (rv a :: As) g m) ⟨hx, hb, hml, hown, hts⟩ hc ⟨callB hok hts hl hd h45, hts _ hv.1, by rw [hqc]; exact hts _ hv.2⟩ ⟨PcE.blind _ _ _ _, ?_, pre_of hS hW hKs hSK hAs hm hz⟩ rfl (by rw [List.length_map]; exact hlen) hlo.1 ?_ (lv_room (by rw [catS_eq]; exact hsum)) hdg ⟨hbd.1, hbd.2⟩
    · rw [ad_cell Γ hK (by decide)]
      exact va_recv hKs hW.2 hci he
    · show (As.reverse ++ rv a :: rest).map (conc Γ) = _
      rw [List.map_append, List.map_reverse, List.map_cons, conc_rv]
theorem Ev.callS {M' : Mth} {d' idx : Nat} {As rest : List Vl} {Po' : Pos} (hdg : decode (Mc M) pc = .ok (.invokestatic idx, 3)) (hl : Cond.methodLink (Mo M) idx (My M') ∈ tb) (hok : MOk M') (hv : MSt M') (hlen : As.length = Mp M') (hst : st = As.reverse ++ rest) (hsum : catS rest ≤ 8) (hd : d' + 1 ≤ d) (h45 : Mn M' ≤ 45) (hbd : b.2.2.1 ≤ b.1 ∧ b.2.2.2 ≤ b.2.1)
    (hc : Cl Γ d' M' 0 0 As g m Po') (hg : ∀ v g' m', Po' v g' m' → g'.1 = g.1) (hq : pc + 3 = q) (k : ∀ v g' m', v.1 = rtag (Mr M') → Po' v g' m' → Ev Γ d M b Po q L (psh v rest) g' m') : Ev Γ d M b Po pc L st g m := by
  subst hq
  subst hst
  intro hL hst hm p e s mi args below meth c H locs ls C hS hW hlo
  obtain ⟨hx, hb, hr, hlk, hml, hown, hnm, hts, hKs, hSK, hsz⟩ := id C
  have hrest : okL rest := fun w hw => hst w (List.mem_append_right _ hw)
  have hAs : okL As := fun w hw => hst w (List.mem_append_left _ (List.mem_reverse.mpr hw))
  refine run_ev (M' := M') (Po' := Po') (mc' := 0) (ms' := 0) (rest := rest) (av := (As.map (conc Γ)).toArray) hL hrest C hS hW hlo (fun hz => ?_) hg k
  refine va_runS (As := As.map (conc Γ)) (Pc := PcE Γ As g m) ⟨hx, hb, hml, hown, hts⟩ hc ⟨callB hok hts hl hd h45, hts _ hv⟩ ⟨PcE.blind _ _ _ _, pre_of hS hW hKs hSK hAs hm hz⟩ rfl (by rw [List.length_map]; exact hlen) hlo.1 ?_ (lv_room (by rw [catS_eq]; exact hsum)) hdg ⟨hbd.1, hbd.2⟩
  show (As.reverse ++ rest).map (conc Γ) = _
  rw [List.map_append, List.map_reverse]
end CALLS
