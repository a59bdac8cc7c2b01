/-! ===== how calls change the state: images, trays, tape, house ===== -/
theorem sIm_f {a k : Nat} (h : ¬ ((a = 211 ∧ (k = 0 ∨ (18 ≤ k ∧ k ≤ 31))) ∨ (216 ≤ a ∧ a ≤ 219) ∨ a = 212 ∨ a = 213)) : sIm a k = false := by
  have hq : sQ a k = false := sQ_f (by omega)
  cases h2 : sIm a k with
  | false => rfl
  | true =>
    exfalso
    unfold sIm at h2
    rw [hq] at h2
    simp at h2
    omega
theorem sTr_f {a k : Nat} (h : ¬ ((a = 211 ∧ (k = 0 ∨ (18 ≤ k ∧ k ≤ 31))) ∨ (216 ≤ a ∧ a ≤ 219) ∨ (220 ≤ a ∧ a ≤ 222))) : sTr a k = false := by
  have hq : sQ a k = false := sQ_f (by omega)
  cases h2 : sTr a k with
  | false => rfl
  | true =>
    exfalso
    unfold sTr at h2
    rw [hq] at h2
    simp at h2
    omega
theorem sFe_f {a k : Nat} (h : ¬ ((a = 0 ∧ k = 1) ∨ a = 1)) : sFe a k = false := by
  cases h2 : sFe a k with
  | false => rfl
  | true => exfalso; unfold sFe at h2; simp at h2; omega
theorem sFm_f {a k : Nat} (h : ¬ ((a = 211 ∧ (k = 0 ∨ k = 5)) ∨ a = 214)) : sFm a k = false := by
  cases h2 : sFm a k with
  | false => rfl
  | true => exfalso; unfold sFm at h2; simp at h2; omega
theorem sHo_f {a k : Nat} (h : ¬ ((a = 211 ∧ (k = 0 ∨ (5 ≤ k ∧ k ≤ 15))) ∨ a = 212 ∨ a = 215)) : sHo a k = false := by
  cases h2 : sHo a k with
  | false => rfl
  | true => exfalso; unfold sHo at h2; simp at h2; omega
theorem sTy_f {c a k : Nat} (h1 : a ≠ c) (h2 : a ≠ c + 1) : sTy c a k = false := by unfold sTy; simp [h1, h2]
/-- an image is made -/
theorem SRp.image {pa n i : Nat} {m m1 m2 : Mem} (h : SRp pa n m) (hi : i < 2) (c1 : HouR (m 212) m1 (173 + 19 * i)) (c2 : NowR (m 212) m1 (184 + 19 * i)) (c3 : m1 64 i = 1) (hF : Fr (sIg i) m m1) (h2 : m2 212 = imgG (m 212) i) (h3 : m2 213 = upg (m 213) i 1) (hF2 : Fr sIm m1 m2) : SR m2 := by
  obtain ⟨h1, h2', h3', ⟨h4, h5, h6, h7, h8, h9⟩, h10, h11, h12, h13⟩ := h
  have lo : ∀ j, j < 1358 → m2 212 j = m 212 j := fun j hj => by rw [h2]; unfold imgG; rw [if_neg (by omega)]
  have ag : Ag (m 212) (m2 212) := fun j _ q => lo j q
  have r2 : ∀ a, (a ≤ 210 ∨ a = 214 ∨ 220 ≤ a) → m2 a = m1 a := fun a q => hF2.rw1 a (fun k => sIm_f (by omega))
  have r1 : ∀ a, ¬ (173 + 19 * i ≤ a ∧ a ≤ 183 + 19 * i) → ¬ (184 + 19 * i < a ∧ a ≤ 191 + 19 * i) → ¬ a = 64 → m1 a = m a := fun a q0 q1 q2 => hF.rw1 a (fun k => sIg_f (by omega))
  have r : ∀ a, (a ≤ 172 ∨ a = 214 ∨ 220 ≤ a) → ¬ a = 64 → m2 a = m a := fun a q q2 => (r2 a (by omega)).trans (r1 a (by omega) (by omega) q2)
  have z : ∀ k, (k = 5 ∨ k = 13 ∨ k = 14) → m2 211 k = m 211 k := fun k q => (hF2 211 k (sIm_f (by omega))).trans (hF 211 k (sIg_f (by omega)))
  refine ⟨pa, n, h1.ag ag, (h2'.keep (fun a p q => r a (by omega) (by omega))).ag h1 ag, (h3'.keep (fun a p q => r a (by omega) (by omega))).ag h1 ag, ⟨h4, h5, by rw [r 0 (by omega) (by omega)]; exact h6, by rw [r 0 (by omega) (by omega)]; exact h7, by rw [lo 96 (by omega)]; exact h8, ?_⟩, ?_, ?_, ?_, ?_⟩
  · exact (h9.keep (fun a p q => r a (by omega) (by omega))).ag (fun k hk => undG_ag (fun j hj => lo j (by omega)) (fun j p q => lo j q) (fun j hj => lo _ (by omega)))
  · intro i' hi'
    by_cases e : i' = i
    · subst e
      have a9 : Ag (m 212) (gim (m2 212) i') := fun j _ q => by
        unfold gim
        rw [h2]
        unfold imgG
        rw [if_pos (by omega), show 1358 * (i' + 1) + j - 1358 * (i' + 1) = j by omega]
      rw [r2 64 (by omega), c3, h3, upg_eq]
      exact ⟨rfl, fun _ => ⟨h1.ag a9, (c1.keep (fun a p q => r2 a (by omega))).ag h1 a9, (c2.keep (fun a p q => r2 a (by omega))).ag h1 a9⟩⟩
    · have a9 : Ag (gim (m 212) i') (gim (m2 212) i') := fun j _ q => by
        unfold gim
        rw [h2]
        unfold imgG
        rw [if_neg (by omega)]
      have e64 : m2 64 i' = m 64 i' := (congrFun (r2 64 (by omega)) i').trans (hF 64 i' (sIg_f (by omega)))
      rw [e64, h3, upg_ne _ _ e]
      refine ⟨(h10 i' hi').1, fun q => ?_⟩
      obtain ⟨p1, p2, p3⟩ := (h10 i' hi').2 q
      refine ⟨p1.ag a9, (p2.keep (fun a p q => ?_)).ag p1 a9, (p3.keep (fun a p q => ?_)).ag p1 a9⟩
      · rw [r2 a (by omega)]; exact r1 a (by omega) (by omega) (by omega)
      · rw [r2 a (by omega)]; exact r1 a (by omega) (by omega) (by omega)
  · exact h11.keep (r 220 (by omega) (by omega)) (r 221 (by omega) (by omega)) (r 222 (by omega) (by omega)) (fun a p q => r a (by omega) (by omega))
  · exact h12.keep (by rw [r 0 (by omega) (by omega)]) (z 5 (by omega)) (r 1 (by omega) (by omega)) (r 214 (by omega) (by omega))
  · exact h13.keep (by rw [r 2 (by omega) (by omega)]) (by rw [r 2 (by omega) (by omega)]) (z 13 (by omega)) (z 14 (by omega))
theorem SRp.restore {pa n i : Nat} {m m1 m2 : Mem} (h : SRp pa n m) (hi : i < 2) (hm : ¬ m 64 i = 0) (c1 : HouR (gim (m 212) i) m1 33) (c2 : NowR (gim (m 212) i) m1 44) (c3 : m1 0 8 = 0) (hF : Fr sRe m m1) (h2 : m2 212 = resG (m 212) i) (hF2 : Fr sD m1 m2) : SR m2 := by
  obtain ⟨h1, h2', h3', ⟨h4, h5, h6, h7, h8, h9⟩, h10, h11, h12, h13⟩ := h
  have hI := ((h10 i hi).2 hm).1
  have ag : Ag (gim (m 212) i) (m2 212) := fun j p q => by
    rw [h2]
    unfold resG gim
    rw [if_neg (by omega), if_pos q]
  have r2 : ∀ a, (a ≤ 210 ∨ a = 213 ∨ a = 214 ∨ 220 ≤ a) → m2 a = m1 a := fun a q => hF2.rw1 a (fun k => sD_f (by omega))
  have r : ∀ a, (a ≤ 32 ∨ (52 ≤ a ∧ a ≤ 210) ∨ a = 213 ∨ a = 214 ∨ 220 ≤ a) → ¬ a = 0 → m2 a = m a := fun a q q2 => (r2 a (by omega)).trans (hF.rw1 a (fun k => sRe_f (by omega)))
  have z : ∀ k, (k = 5 ∨ k = 13 ∨ k = 14) → m2 211 k = m 211 k := fun k q => (hF2 211 k (sD_f (by omega))).trans (hF 211 k (sRe_f (by omega)))
  have z0 : ∀ k, ¬ k = 8 → m2 0 k = m 0 k := fun k q => (congrFun (r2 0 (by omega)) k).trans (hF 0 k (sRe_f (by omega)))
  refine ⟨pa, 0, hI.ag ag, (c1.keep (fun a p q => r2 a (by omega))).ag hI ag, (c2.keep (fun a p q => r2 a (by omega))).ag hI ag, ⟨h4, by omega, by rw [z0 7 (by omega)]; exact h6, by rw [r2 0 (by omega)]; exact c3, by rw [h2]; unfold resG; rw [if_pos rfl]; rfl, fun k hk => absurd hk (by omega)⟩, ?_, ?_, ?_, ?_⟩
  · exact h10.keep (fun j hj => by rw [h2]; unfold resG; rw [if_neg (by omega), if_neg (by omega)]) (r 64 (by omega) (by omega)) (r 213 (by omega) (by omega)) (fun a p q => r a (by omega) (by omega))
  · exact h11.keep (r 220 (by omega) (by omega)) (r 221 (by omega) (by omega)) (r 222 (by omega) (by omega)) (fun a p q => r a (by omega) (by omega))
  · exact h12.keep (z0 1 (by omega)) (z 5 (by omega)) (r 1 (by omega) (by omega)) (r 214 (by omega) (by omega))
  · exact h13.keep (by rw [r 2 (by omega) (by omega)]) (by rw [r 2 (by omega) (by omega)]) (z 13 (by omega)) (z 14 (by omega))
theorem TraR.cg {m : Mem} {c : Nat} {sort : Int} {many : Nat} {nm nm' : Nat → Int} (h : TraR m c sort many nm) (e : ¬ sort = -1 → many ≤ 40 → ∀ j, j < many → nm' j = nm j) : TraR m c sort many nm' := by
  refine ⟨h.1, fun z => ?_⟩
  obtain ⟨p1, p2, p3, p4, p5⟩ := h.2 z
  exact ⟨p1, p2, p3, p4, fun i hi => by rw [e z p4 i hi]; exact p5 i hi⟩
/-- a tray is changed: its two cells on the one side, its part of the rows on the other -/
theorem SRp.tray {pa n t : Nat} {m m1 m2 : Mem} (h : SRp pa n m) (ht : t < 4) (hF : Fr (fun a _ => a == 165 + 2 * t || a == 165 + 2 * t + 1 || a == 65) m m1) (hF2 : Fr sTr m1 m2)
    (o0 : ∀ i, i < 4 → i ≠ t → m2 220 i = m 220 i) (o1 : ∀ i, i < 4 → i ≠ t → m2 221 i = m 221 i) (o2 : ∀ i, i < 4 → i ≠ t → ∀ j, j < 40 → m2 222 (40 * i + j) = m 222 (40 * i + j))
    (n1 : 0 ≤ m2 221 t ∧ m2 221 t ≤ 40) (n0 : m2 220 t = -1 ∨ (0 ≤ m2 220 t ∧ m2 220 t ≤ 3)) (nT : TraR m1 (165 + 2 * t) (m2 220 t) (m2 221 t).toNat (fun j => m2 222 (40 * t + j))) : SR m2 := by
  obtain ⟨h1, h2', h3', ⟨h4, h5, h6, h7, h8, h9⟩, h10, h11, h12, h13⟩ := h
  have r2 : ∀ a, (a ≤ 210 ∨ (212 ≤ a ∧ a ≤ 214)) → m2 a = m1 a := fun a q => hF2.rw1 a (fun k => sTr_f (by omega))
  have f1 : ∀ a k, a ≠ 165 + 2 * t → a ≠ 165 + 2 * t + 1 → a ≠ 65 → m1 a k = m a k := fun a k q1 q2 q3 => hF a k (by simp [q1, q2, q3])
  have r : ∀ a, (a ≤ 210 ∨ (212 ≤ a ∧ a ≤ 214)) → a ≠ 165 + 2 * t → a ≠ 165 + 2 * t + 1 → a ≠ 65 → m2 a = m a := fun a q q1 q2 q3 => (r2 a q).trans (funext fun k => f1 a k q1 q2 q3)
  have z : ∀ k, (k = 5 ∨ k = 13 ∨ k = 14) → m2 211 k = m 211 k := fun k q => (hF2 211 k (sTr_f (by omega))).trans (f1 211 k (by omega) (by omega) (by omega))
  have r12 := r 212 (by omega) (by omega) (by omega) (by omega)
  refine ⟨pa, n, by rw [r12]; exact h1, by rw [r12]; exact h2'.keep (fun a p q => r a (by omega) (by omega) (by omega) (by omega)), by rw [r12]; exact h3'.keep (fun a p q => r a (by omega) (by omega) (by omega) (by omega)), ⟨h4, h5, by rw [r 0 (by omega) (by omega) (by omega) (by omega)]; exact h6, by rw [r 0 (by omega) (by omega) (by omega) (by omega)]; exact h7, by rw [r12]; exact h8, by rw [r12]; exact h9.keep (fun a p q => r a (by omega) (by omega) (by omega) (by omega))⟩, ?_, ?_, ?_, ?_⟩
  · rw [r12]; exact h10.keep (fun _ _ => rfl) (r 64 (by omega) (by omega) (by omega) (by omega)) (r 213 (by omega) (by omega) (by omega) (by omega)) (fun a p q => r a (by omega) (by omega) (by omega) (by omega))
  · intro i hi
    by_cases e : i = t
    · subst e
      exact ⟨n1, n0, nT.keep (r2 _ (by omega)) (r2 _ (by omega))⟩
    · rw [o0 i hi e, o1 i hi e]
      obtain ⟨p1, p2, p3⟩ := h11 i hi
      exact ⟨p1, p2, (p3.keep (r _ (by omega) (by omega) (by omega) (by omega)) (r _ (by omega) (by omega) (by omega) (by omega))).cg (fun _ q j hj => o2 i hi e j (by omega))⟩
  · exact h12.keep (by rw [r 0 (by omega) (by omega) (by omega) (by omega)]) (z 5 (by omega)) (r 1 (by omega) (by omega) (by omega) (by omega)) (r 214 (by omega) (by omega) (by omega) (by omega))
  · exact h13.keep (by rw [r 2 (by omega) (by omega) (by omega) (by omega)]) (by rw [r 2 (by omega) (by omega) (by omega) (by omega)]) (z 13 (by omega)) (z 14 (by omega))
theorem lsN_o {sp : Int} {st : Nat → Nat → Int} {srt : Int} {b many : Nat} : ∀ (k : Nat) (t : Tr) (n : Nat) (w : Nat → Int) (j : Nat), ¬ (b ≤ j ∧ j < b + many) → (lsN sp st srt b many k t n w).2 j = w j := by
  intro k
  induction k with
  | zero => intro t n w j hj; rfl
  | succ k ih =>
    intro t n w j hj
    unfold lsN
    split
    · split
      · rfl
      · split
        · dsimp only; rw [upg_ne _ _ (by omega)]
        · rw [ih _ _ _ _ hj, upg_ne _ _ (by omega), upg_ne _ _ (by omega)]
    · rfl
theorem by8 (x : BitVec 8) : (0 ≤ (x.toNat : Int) ∧ (x.toNat : Int) ≤ 255) ∧ ((x.toInt = (x.toNat : Int) ∧ (x.toNat : Int) < 128) ∨ (x.toInt = (x.toNat : Int) - 256 ∧ 128 ≤ (x.toNat : Int))) := by
  have h := x.isLt
  have e : x.toInt = if 2 * x.toNat < 2 ^ 8 then (x.toNat : Int) else (x.toNat : Int) - ((2 ^ 8 : Nat) : Int) := rfl
  rw [e]
  split <;> omega
theorem SRp.feed {pa n k : Nat} {m m1 m2 : Mem} {f : Nat → BitVec 8} (h : SRp pa n m) (hk : m 211 5 = k) (hk2 : k + 20 ≤ 900) (c1 : m1 0 1 = ((k + 20 : Nat) : Int)) (c2 : ∀ j, j < 20 → m1 1 (k + j) = (f j).toInt) (c3 : ∀ i, i < k → m1 1 i = m 1 i) (hF : Fr sFe m m1) (d1 : m2 211 5 = ((k + 20 : Nat) : Int)) (d2 : ∀ j, j < 20 → m2 214 (k + j) = ((f j).toNat : Int)) (d3 : ∀ i, i < k → m2 214 i = m1 214 i) (hF2 : Fr sFm m1 m2) : SR m2 := by
  obtain ⟨h1, h2', h3', ⟨h4, h5, h6, h7, h8, h9⟩, h10, h11, h12, h13⟩ := h
  have r2 : ∀ a, ¬ a = 211 → ¬ a = 214 → m2 a = m1 a := fun a q1 q2 => hF2.rw1 a (fun k => sFm_f (by omega))
  have r1 : ∀ a, ¬ a = 0 → ¬ a = 1 → m1 a = m a := fun a q1 q2 => hF.rw1 a (fun k => sFe_f (by omega))
  have r : ∀ a, ¬ a = 211 → ¬ a = 214 → ¬ a = 0 → ¬ a = 1 → m2 a = m a := fun a q1 q2 q3 q4 => (r2 a q1 q2).trans (r1 a q3 q4)
  have z : ∀ k, (k = 13 ∨ k = 14) → m2 211 k = m 211 k := fun k q => (hF2 211 k (sFm_f (by omega))).trans (hF 211 k (sFe_f (by omega)))
  have z0 : ∀ k, ¬ k = 1 → m2 0 k = m 0 k := fun k q => (congrFun (r2 0 (by omega) (by omega)) k).trans (hF 0 k (sFe_f (by omega)))
  have r12 := r 212 (by omega) (by omega) (by omega) (by omega)
  refine ⟨pa, n, by rw [r12]; exact h1, by rw [r12]; exact h2'.keep (fun a p q => r a (by omega) (by omega) (by omega) (by omega)), by rw [r12]; exact h3'.keep (fun a p q => r a (by omega) (by omega) (by omega) (by omega)), ⟨h4, h5, by rw [z0 7 (by omega)]; exact h6, by rw [z0 8 (by omega)]; exact h7, by rw [r12]; exact h8, by rw [r12]; exact h9.keep (fun a p q => r a (by omega) (by omega) (by omega) (by omega))⟩, ?_, ?_, ?_, ?_⟩
  · rw [r12]; exact h10.keep (fun _ _ => rfl) (r 64 (by omega) (by omega) (by omega) (by omega)) (r 213 (by omega) (by omega) (by omega) (by omega)) (fun a p q => r a (by omega) (by omega) (by omega) (by omega))
  · exact h11.keep (r 220 (by omega) (by omega) (by omega) (by omega)) (r 221 (by omega) (by omega) (by omega) (by omega)) (r 222 (by omega) (by omega) (by omega) (by omega)) (fun a p q => r a (by omega) (by omega) (by omega) (by omega))
  · refine ⟨by rw [r2 0 (by omega) (by omega), c1, d1], by rw [d1]; omega, ?_⟩
    rw [d1, Int.toNat_natCast]
    intro i hi
    rw [r2 1 (by omega) (by omega)]
    by_cases q : i < k
    · rw [c3 i q, d3 i q, r1 214 (by omega) (by omega)]
      have := h12.2.2 i (by rw [hk, Int.toNat_natCast]; exact q)
      exact this
    · obtain ⟨j, rfl⟩ : ∃ j, i = k + j := ⟨i - k, by omega⟩
      rw [c2 j (by omega), d2 j (by omega)]
      exact by8 _
  · exact h13.keep (by rw [r 2 (by omega) (by omega) (by omega) (by omega)]) (by rw [r 2 (by omega) (by omega) (by omega) (by omega)]) (z 13 (by omega)) (z 14 (by omega))
theorem SRp.house {pa n : Nat} {m m1 m2 : Mem} {r r2 : Int} {x : Er (Tok × Row)} (h : SRp pa n m) (c : PHc r m m1 x) (hF2 : Fr sHo m1 m2) (d : PH r2 (m1 212) m2 x) (hx : ∀ a, x = .inr a → a.2 96 = 0) : r2 = r ∧ SR m2 := by
  obtain ⟨h1, h2', h3', ⟨h4, h5, h6, h7, h8, h9⟩, h10, h11, h12, h13⟩ := h
  obtain ⟨c0, c⟩ := c
  obtain ⟨d0, d⟩ := d
  have q2 : ∀ a, ¬ a = 211 → ¬ a = 212 → ¬ a = 215 → m2 a = m1 a := fun a p1 p2 p3 => hF2.rw1 a (fun k => sHo_f (by omega))
  have tap : TapR m2 := ⟨by rw [q2 0 (by omega) (by omega) (by omega), c0, d0], by rw [d0]; omega, fun i hi => by rw [d0] at hi; exact absurd hi (by simp)⟩
  cases x with
  | inl e =>
    obtain ⟨c1, c2, c3, c4, c5⟩ := c
    obtain ⟨d1, d2, d3, d4, d5⟩ := d
    have r1 : ∀ a, ¬ a = 0 → ¬ (2 ≤ a ∧ a ≤ 32) → m1 a = m a := fun a p1 p2 => c5.rw1 a (fun k => sHb_f (by omega))
    have r : ∀ a, ¬ a = 0 → ¬ (2 ≤ a ∧ a ≤ 32) → ¬ a = 211 → ¬ a = 212 → ¬ a = 215 → m2 a = m a := fun a p1 p2 p3 p4 p5 => (q2 a p3 p4 p5).trans (r1 a p1 p2)
    have z0 : ∀ k, ¬ k = 1 → m2 0 k = m 0 k := fun k q => (congrFun (q2 0 (by omega) (by omega) (by omega)) k).trans (c5 0 k (sHb_f (by omega)))
    have r12 : m2 212 = m 212 := d5.trans (r1 212 (by omega) (by omega))
    refine ⟨by rw [d2, c2], pa, n, by rw [r12]; exact h1, by rw [r12]; exact h2'.keep (fun a p q => r a (by omega) (by omega) (by omega) (by omega) (by omega)), by rw [r12]; exact h3'.keep (fun a p q => r a (by omega) (by omega) (by omega) (by omega) (by omega)), ⟨h4, h5, by rw [z0 7 (by omega)]; exact h6, by rw [z0 8 (by omega)]; exact h7, by rw [r12]; exact h8, by rw [r12]; exact h9.keep (fun a p q => r a (by omega) (by omega) (by omega) (by omega) (by omega))⟩, ?_, ?_, tap, ?_⟩
    · rw [r12]; exact h10.keep (fun _ _ => rfl) (r 64 (by omega) (by omega) (by omega) (by omega) (by omega)) (r 213 (by omega) (by omega) (by omega) (by omega) (by omega)) (fun a p q => r a (by omega) (by omega) (by omega) (by omega) (by omega))
    · exact h11.keep (r 220 (by omega) (by omega) (by omega) (by omega) (by omega)) (r 221 (by omega) (by omega) (by omega) (by omega) (by omega)) (r 222 (by omega) (by omega) (by omega) (by omega) (by omega)) (fun a p q => r a (by omega) (by omega) (by omega) (by omega) (by omega))
    · exact ⟨by rw [q2 2 (by omega) (by omega) (by omega), c3, d3], by rw [q2 2 (by omega) (by omega) (by omega), c4, d4]⟩
  | inr e =>
    obtain ⟨c1, c2, ⟨c3, c4⟩, c5, c6, c7, c8⟩ := c
    obtain ⟨d1, d2, d3, d4, d5⟩ := d
    have r1 : ∀ a, ¬ a = 0 → ¬ (2 ≤ a ∧ a ≤ 51) → m1 a = m a := fun a p1 p2 => c8.rw1 a (fun k => sHg_f (by omega))
    have r : ∀ a, ¬ a = 0 → ¬ (2 ≤ a ∧ a ≤ 51) → ¬ a = 211 → ¬ a = 212 → ¬ a = 215 → m2 a = m a := fun a p1 p2 p3 p4 p5 => (q2 a p3 p4 p5).trans (r1 a p1 p2)
    have z0 : ∀ k, ¬ k = 1 → ¬ k = 8 → m2 0 k = m 0 k := fun k q q' => (congrFun (q2 0 (by omega) (by omega) (by omega)) k).trans (c8 0 k (sHg_f (by omega)))
    have ag : Ag e.2 (m2 212) := fun j _ q => d4 j q
    refine ⟨by rw [d1, c1], pa, 0, c7.ag ag, (c5.keep (fun a p q => q2 a (by omega) (by omega) (by omega))).ag c7 ag, (c6.keep (fun a p q => q2 a (by omega) (by omega) (by omega))).ag c7 ag, ⟨h4, by omega, by rw [z0 7 (by omega) (by omega)]; exact h6, by rw [q2 0 (by omega) (by omega) (by omega)]; exact c2, by rw [d4 96 (by omega), hx e rfl]; rfl, fun k hk => absurd hk (by omega)⟩, ?_, ?_, tap, ?_⟩
    · exact h10.keep (fun j hj => (d5 j hj).trans (congrFun (r1 212 (by omega) (by omega)) j)) (r 64 (by omega) (by omega) (by omega) (by omega) (by omega)) (r 213 (by omega) (by omega) (by omega) (by omega) (by omega)) (fun a p q => r a (by omega) (by omega) (by omega) (by omega) (by omega))
    · exact h11.keep (r 220 (by omega) (by omega) (by omega) (by omega) (by omega)) (r 221 (by omega) (by omega) (by omega) (by omega) (by omega)) (r 222 (by omega) (by omega) (by omega) (by omega) (by omega)) (fun a p q => r a (by omega) (by omega) (by omega) (by omega) (by omega))
    · exact ⟨by rw [q2 2 (by omega) (by omega) (by omega), c3, d2], by rw [q2 2 (by omega) (by omega) (by omega), c4, d3]⟩
