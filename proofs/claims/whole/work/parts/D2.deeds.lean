/-! ===== how calls change the state: deeds ===== -/
theorem sD_f {a k : Nat} (h : ¬ ((a = 211 ∧ (k = 0 ∨ (18 ≤ k ∧ k ≤ 31))) ∨ (216 ≤ a ∧ a ≤ 219) ∨ a = 212)) : sD a k = false := by
  have hq : sQ a k = false := sQ_f (by omega)
  cases h2 : sD a k with
  | false => rfl
  | true =>
    exfalso
    unfold sD at h2
    rw [hq] at h2
    simp at h2
    omega
theorem undG_ag {g g' : Row} {k k' : Nat} (e1 : ∀ j, j < 60 → g' j = g j) (e2 : ∀ j, 458 ≤ j → j < 1358 → g' j = g j) (e3 : ∀ i, i < 36 → g' (97 + 36 * k' + i) = g (97 + 36 * k + i)) : Ag (undG g k) (undG g' k') := by
  intro j hj hj2
  have h96 : ¬ j = 96 := by omega
  unfold undG
  rw [if_neg h96, if_neg h96]
  by_cases h : 60 ≤ j ∧ j < 96
  · rw [if_pos h, if_pos h]
    exact e3 _ (by omega)
  · rw [if_neg h, if_neg h]
    by_cases h6 : j < 60
    · exact e1 j h6
    · exact e2 j (by omega) hj2
theorem undG_self {g g' : Row} {k' : Nat} (e1 : ∀ j, j < 60 → g' j = g j) (e2 : ∀ j, 458 ≤ j → j < 1358 → g' j = g j) (e3 : ∀ i, i < 36 → g' (97 + 36 * k' + i) = g (60 + i)) : Ag g (undG g' k') := by
  intro j hj hj2
  unfold undG
  rw [if_neg (by omega)]
  by_cases h : 60 ≤ j ∧ j < 96
  · rw [if_pos h, e3 _ (by omega)]
    congr 1
    omega
  · rw [if_neg h]
    by_cases h6 : j < 60
    · exact e1 j h6
    · exact e2 j (by omega) hj2
theorem notG_old {g w : Row} {n k i : Nat} (h : g 96 = n) (hn : n < 10) (hk : k < n) (hi : i < 36) : notG g w (97 + 36 * k + i) = g (97 + 36 * k + i) := by
  have e : (if g 96 = 10 then 9 else (g 96).toNat) = n := by rw [h, if_neg (by omega), Int.toNat_natCast]
  unfold notG
  rw [e, if_neg (by omega), if_neg (by omega), if_neg (fun q => by omega)]
theorem notG_new {g w : Row} {n i : Nat} (h : g 96 = n) (hn : n < 10) (hi : i < 36) : notG g w (97 + 36 * n + i) = w i := by
  have e : (if g 96 = 10 then 9 else (g 96).toNat) = n := by rw [h, if_neg (by omega), Int.toNat_natCast]
  unfold notG
  rw [e, if_neg (by omega), if_pos (by omega)]
  congr 1
  omega
theorem notG_sh {g w : Row} {k i : Nat} (h : g 96 = 10) (hk : k < 9) (hi : i < 36) : notG g w (97 + 36 * k + i) = g (97 + 36 * (k + 1) + i) := by
  have e : (if g 96 = 10 then 9 else (g 96).toNat) = 9 := by rw [if_pos h]
  unfold notG
  rw [e, if_neg (by omega), if_neg (by omega), if_pos ⟨h, by omega, by omega⟩]
  congr 1
  omega
theorem notG_last {g w : Row} {i : Nat} (h : g 96 = 10) (hi : i < 36) : notG g w (97 + 36 * 9 + i) = w i := by
  have e : (if g 96 = 10 then 9 else (g 96).toNat) = 9 := by rw [if_pos h]
  unfold notG
  rw [e, if_neg (by omega), if_pos (by omega)]
  rw [show 97 + 36 * 9 + i - (97 + 36 * 9) = i by omega]
theorem notG_96 {g w : Row} {n : Nat} (h : g 96 = n) (hn : n ≤ 10) : notG g w 96 = ((if n < 10 then n + 1 else 10 : Nat) : Int) := by
  unfold notG
  rw [if_pos rfl, h]
  by_cases q : n < 10
  · rw [if_neg (by omega), if_pos q]; rfl
  · rw [if_pos (by omega), if_neg q]; rfl
/-- what stays on both sides when a deed is done -/
theorem SRp.deedK {pa n : Nat} {m m1 m2 : Mem} (h : SRp pa n m) (hF : Fr (sDd pa) m m1) (hF2 : Fr sD m1 m2) (hg : ∀ j, 1358 ≤ j → m2 212 j = m 212 j) : ImgR (m2 212) m2 ∧ TrsR m2 ∧ TapR m2 ∧ FauR m2 ∧ (∀ a, (33 ≤ a ∧ a ≤ 43) ∨ (77 ≤ a ∧ a ≤ 164 ∧ ¬ (77 + 8 * pa < a ∧ a ≤ 77 + 8 * pa + 7)) → m2 a = m a) ∧ (∀ a, (44 ≤ a ∧ a ≤ 51) ∨ (77 ≤ a ∧ a ≤ 164) → m2 a = m1 a) ∧ m2 0 7 = m1 0 7 ∧ m2 0 8 = m1 0 8 := by
  obtain ⟨h1, h2, h3, ⟨h4, h5, h6, h7, h8, h9⟩, h10, h11, h12, h13⟩ := h
  have r2 : ∀ a, (a ≤ 210 ∨ a = 213 ∨ a = 214 ∨ 220 ≤ a) → m2 a = m1 a := fun a q => hF2.rw1 a (fun k => sD_f (by omega))
  have r1 : ∀ a, ¬ a = 0 → ¬ (44 < a ∧ a ≤ 51) → ¬ (77 + 8 * pa < a ∧ a ≤ 77 + 8 * pa + 7) → ¬ ((52 ≤ a ∧ a ≤ 59) ∨ (65 ≤ a ∧ a ≤ 76)) → m1 a = m a := fun a q0 q1 q2 q3 => hF.rw1 a (fun k => sDd_f (by omega))
  have r : ∀ a, (a ≤ 210 ∨ a = 213 ∨ a = 214 ∨ 220 ≤ a) → ¬ a = 0 → ¬ (44 < a ∧ a ≤ 51) → ¬ (77 + 8 * pa < a ∧ a ≤ 77 + 8 * pa + 7) → ¬ ((52 ≤ a ∧ a ≤ 59) ∨ (65 ≤ a ∧ a ≤ 76)) → m2 a = m a := fun a q q0 q1 q2 q3 => (r2 a q).trans (r1 a q0 q1 q2 q3)
  have z : ∀ k, (k = 5 ∨ k = 13 ∨ k = 14) → m2 211 k = m 211 k := fun k q => (hF2 211 k (sD_f (by omega))).trans (hF 211 k (sDd_f (by omega)))
  refine ⟨h10.keep hg (r 64 (by omega) (by omega) (by omega) (by omega) (by omega)) (r 213 (by omega) (by omega) (by omega) (by omega) (by omega)) (fun a p q => r a (by omega) (by omega) (by omega) (by omega) (by omega)), h11.keep (r 220 (by omega) (by omega) (by omega) (by omega) (by omega)) (r 221 (by omega) (by omega) (by omega) (by omega) (by omega)) (r 222 (by omega) (by omega) (by omega) (by omega) (by omega)) (fun a p q => r a (by omega) (by omega) (by omega) (by omega) (by omega)), h12.keep ?_ (z 5 (by omega)) (r 1 (by omega) (by omega) (by omega) (by omega) (by omega)) (r 214 (by omega) (by omega) (by omega) (by omega) (by omega)), h13.keep ?_ ?_ (z 13 (by omega)) (z 14 (by omega)), fun a q => r a (by omega) (by omega) (by omega) (by omega) (by omega), fun a q => r2 a (by omega), ?_, ?_⟩
  · rw [r2 0 (by omega)]; exact hF 0 1 (sDd_f (by omega))
  · rw [r 2 (by omega) (by omega) (by omega) (by omega) (by omega)]
  · rw [r 2 (by omega) (by omega) (by omega) (by omega) (by omega)]
  · rw [r2 0 (by omega)]
  · rw [r2 0 (by omega)]
theorem SRp.deed {pa n : Nat} {m m1 m2 : Mem} {g' : Row} (h : SRp pa n m) (hD : DOk (m 212) g' pa n m1) (hF : Fr (sDd pa) m m1) (hI : HI g') (hK : Kp (m 212) g') (h2 : m2 212 = notG g' (wasG (m 212))) (hF2 : Fr sD m1 m2) : SR m2 := by
  have h0 := h
  obtain ⟨h1, h2', h3, ⟨h4, h5, h6, h7, h8, h9⟩, h10, h11, h12, h13⟩ := h
  obtain ⟨d1, d2, d3, d4⟩ := hD
  have e96 : g' 96 = n := (hK 96 (by omega)).trans h8
  have lo : ∀ j, j < 96 → m2 212 j = g' j := fun j hj => by rw [h2, notG_lo hj]
  have hi : ∀ j, 457 ≤ j → m2 212 j = m 212 j := fun j hj => by rw [h2, notG_hi (by omega) hj]; exact hK j (by omega)
  have l6 : ∀ j, j < 60 → m2 212 j = m 212 j := fun j hj => (lo j (by omega)).trans (hK j (by omega))
  have hi2 : ∀ j, 458 ≤ j → j < 1358 → m2 212 j = m 212 j := fun j p q => hi j (by omega)
  have ag : Ag g' (m2 212) := fun j p q => by
    rcases p with p | p
    · exact lo j p
    · rw [hi j (by omega)]; exact (hK j (by omega)).symm
  obtain ⟨k1, k2, k3, k4, k5, k6, k7, k8⟩ := h0.deedK hF hF2 (fun j hj => hi j (by omega))
  refine ⟨(pa + 1) % 11, if n < 10 then n + 1 else 10, hI.ag ag, ?_, ?_, ⟨Nat.mod_lt _ (by decide), by split <;> omega, by rw [k7]; exact d3, by rw [k8]; exact d4, by rw [h2]; exact notG_96 e96 h5, ?_⟩, k1, k2, k3, k4⟩
  · exact (h2'.keep (fun a p q => k5 a (by omega))).Kp h1.2.1.2 h1.2.2.1.2 l6 (fun j hj => hi j (by omega))
  · exact (d1.keep (fun a p q => k6 a (by omega))).ag hI ag
  · intro k hk
    by_cases hn : n < 10
    · rw [if_pos hn] at hk ⊢
      by_cases ek : k = n
      · subst ek
        have e : (((pa + 1) % 11 + 11 + k - (k + 1)) % 11) = pa := by omega
        have a9 : Ag (m 212) (undG (m2 212) k) := undG_self l6 hi2 (fun i hi => by rw [h2, notG_new e96 hn hi]; rfl)
        rw [e]
        exact ⟨h1.ag a9, (d2.keep (fun a p q => k6 a (by omega))).ag h1 a9⟩
      · have e : (((pa + 1) % 11 + 11 + k - (n + 1)) % 11) = (pa + 11 + k - n) % 11 := by omega
        have a9 : Ag (undG (m 212) k) (undG (m2 212) k) := undG_ag l6 hi2 (fun i hi => by rw [h2, notG_old e96 hn (by omega) hi]; exact hK _ (by omega))
        rw [e]
        obtain ⟨p1, p2⟩ := h9 k (by omega)
        exact ⟨p1.ag a9, (p2.keep (fun a p q => k5 a (by omega))).ag p1 a9⟩
    · rw [if_neg hn] at hk ⊢
      have hn9 : n = 10 := by omega
      subst hn9
      by_cases ek : k = 9
      · subst ek
        have e : (((pa + 1) % 11 + 11 + 9 - 10) % 11) = pa := by omega
        have a9 : Ag (m 212) (undG (m2 212) 9) := undG_self l6 hi2 (fun i hi => by rw [h2, notG_last e96 hi]; rfl)
        rw [e]
        exact ⟨h1.ag a9, (d2.keep (fun a p q => k6 a (by omega))).ag h1 a9⟩
      · have e : (((pa + 1) % 11 + 11 + k - 10) % 11) = (pa + 11 + (k + 1) - 10) % 11 := by omega
        have a9 : Ag (undG (m 212) (k + 1)) (undG (m2 212) k) := undG_ag l6 hi2 (fun i hi => by rw [h2, notG_sh e96 (by omega) hi]; exact hK _ (by omega))
        rw [e]
        obtain ⟨p1, p2⟩ := h9 (k + 1) (by omega)
        exact ⟨p1.ag a9, (p2.keep (fun a p q => k5 a (by omega))).ag p1 a9⟩
/-- a deed that isn't done, or changes nothing that is kept -/
theorem SRp.dno {pa n : Nat} {m m1 m2 : Mem} {g' : Row} (h : SRp pa n m) (hD : DNo g' pa n m1) (hF : Fr (sDd pa) m m1) (hI : HI g') (hK : Kp (m 212) g') (h2 : m2 212 = g') (hF2 : Fr sD m1 m2) : SR m2 := by
  have h0 := h
  obtain ⟨h1, h2', h3, ⟨h4, h5, h6, h7, h8, h9⟩, h10, h11, h12, h13⟩ := h
  obtain ⟨d1, d3, d4⟩ := hD
  subst h2
  obtain ⟨k1, k2, k3, k4, k5, k6, k7, k8⟩ := h0.deedK hF hF2 (fun j hj => hK j (by omega))
  refine ⟨pa, n, hI, ?_, d1.keep (fun a p q => k6 a (by omega)), ⟨h4, h5, by rw [k7]; exact d3, by rw [k8]; exact d4, (hK 96 (by omega)).trans h8, ?_⟩, k1, k2, k3, k4⟩
  · exact (h2'.keep (fun a p q => k5 a (by omega))).Kp h1.2.1.2 h1.2.2.1.2 (fun j hj => hK j (by omega)) (fun j hj => hK j (by omega))
  · exact (h9.keepB h5 h4 (fun a p q r => k5 a (by omega))).ag (fun k hk => undG_ag (fun j hj => hK j (by omega)) (fun j p q => hK j (by omega)) (fun i hi => hK _ (by omega)))
theorem SRp.undo {pa n k : Nat} {m m1 m2 : Mem} (h : SRp pa n m) (hk1 : 1 ≤ k) (hk2 : k ≤ n) (e7 : m1 0 7 = (((pa + 11 - k) % 11 : Nat) : Int)) (e8 : m1 0 8 = ((n - k : Nat) : Int)) (hc : ∀ i, 1 ≤ i → i ≤ 7 → ∀ j, j < nlen i → m1 (44 + i) j = m (77 + 8 * ((pa + 11 - k) % 11) + i) j) (hF : Fr (sDd pa) m m1) (h2 : m2 212 = undG (m 212) (n - k)) (hF2 : Fr sD m1 m2) : SR m2 := by
  have h0 := h
  obtain ⟨h1, h2', h3, ⟨h4, h5, h6, h7, h8, h9⟩, h10, h11, h12, h13⟩ := h
  have l6 : ∀ j, j < 60 → m2 212 j = m 212 j := fun j hj => by rw [h2]; unfold undG; rw [if_neg (by omega), if_neg (by omega)]
  have hi : ∀ j, 97 ≤ j → m2 212 j = m 212 j := fun j hj => by rw [h2]; unfold undG; rw [if_neg (by omega), if_neg (by omega)]
  obtain ⟨k1, k2, k3, k4, k5, k6, k7, k8⟩ := h0.deedK hF hF2 (fun j hj => hi j (by omega))
  obtain ⟨p1, p2⟩ := h9 (n - k) (by omega)
  rw [show (pa + 11 + (n - k) - n) % 11 = (pa + 11 - k) % 11 by omega] at p2
  have p3 : NowR (undG (m 212) (n - k)) m1 44 := NowR.copy p1.2.1.2 p1.2.2.1.2 p2 hc
  refine ⟨(pa + 11 - k) % 11, n - k, by rw [h2]; exact p1, ?_, ?_, ⟨Nat.mod_lt _ (by decide), by omega, by rw [k7]; exact e7, by rw [k8]; exact e8, by rw [h2]; unfold undG; rw [if_pos rfl], ?_⟩, k1, k2, k3, k4⟩
  · exact (h2'.keep (fun a p q => k5 a (by omega))).Kp h1.2.1.2 h1.2.2.1.2 l6 (fun j hj => hi j (by omega))
  · rw [h2]; exact p3.keep (fun a p q => k6 a (by omega))
  · intro j hj
    have e : ((pa + 11 - k) % 11 + 11 + j - (n - k)) % 11 = (pa + 11 + j - n) % 11 := by omega
    have a9 : Ag (undG (m 212) j) (undG (m2 212) j) := undG_ag l6 (fun i p q => hi i (by omega)) (fun i hi' => hi _ (by omega))
    rw [e]
    obtain ⟨q1, q2⟩ := h9 j (by omega)
    exact ⟨q1.ag a9, (q2.keep (fun a p q => k5 a (by omega))).ag q1 a9⟩
