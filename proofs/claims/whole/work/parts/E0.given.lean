/-! ===== what the Statement gives of the start ===== -/
def nF : List Cond := flatC (Jvm.Cond.and given_1 narrow_1)
def tmS (i : Nat) : Term := match strT[i]? with
  | some q => .string q.1 q.2.1
  | none => .arg 0
def pE (i : Nat) : Nat := ([48, 57, 66, 74, 86, 99, 111, 125, 142, 158, 173, 191, 209, 230, 251, 271, 295, 319, 345, 372, 492] : List Nat).getD i 0
def pQ (i j : Nat) : Nat := (([[0, 65, 72, 83, 95, 106, 119, 135, 150, 164, 181, 198, 218, 238, 257, 280, 303, 328, 354, 473, 503], [0, 0, 73, 84, 96, 107, 120, 136, 151, 165, 182, 199, 219, 239, 258, 281, 304, 329, 355, 474, 504], [0, 0, 0, 85, 97, 108, 121, 137, 152, 166, 183, 200, 220, 240, 259, 282, 305, 330, 356, 475, 505], [0, 0, 0, 0, 98, 109, 122, 138, 153, 167, 184, 201, 221, 241, 260, 283, 306, 331, 357, 476, 506], [0, 0, 0, 0, 0, 110, 123, 139, 154, 168, 185, 202, 222, 242, 261, 284, 307, 332, 358, 477, 507], [0, 0, 0, 0, 0, 0, 124, 140, 155, 169, 186, 203, 223, 243, 262, 285, 308, 333, 359, 478, 508], [0, 0, 0, 0, 0, 0, 0, 141, 156, 170, 187, 204, 224, 244, 263, 286, 309, 334, 360, 479, 509], [0, 0, 0, 0, 0, 0, 0, 0, 157, 171, 188, 205, 225, 245, 264, 287, 310, 335, 361, 480, 510], [0, 0, 0, 0, 0, 0, 0, 0, 0, 172, 189, 206, 226, 246, 265, 288, 311, 336, 362, 481, 511], [0, 0, 0, 0, 0, 0, 0, 0, 0, 0, 190, 207, 227, 247, 266, 289, 312, 337, 363, 482, 512], [0, 0, 0, 0, 0, 0, 0, 0, 0, 0, 0, 208, 228, 248, 267, 290, 313, 338, 364, 483, 513], [0, 0, 0, 0, 0, 0, 0, 0, 0, 0, 0, 0, 229, 249, 268, 291, 314, 339, 365, 484, 514], [0, 0, 0, 0, 0, 0, 0, 0, 0, 0, 0, 0, 0, 250, 269, 292, 315, 340, 366, 485, 515], [0, 0, 0, 0, 0, 0, 0, 0, 0, 0, 0, 0, 0, 0, 270, 293, 316, 341, 367, 486, 516], [0, 0, 0, 0, 0, 0, 0, 0, 0, 0, 0, 0, 0, 0, 0, 294, 317, 342, 368, 487, 517], [0, 0, 0, 0, 0, 0, 0, 0, 0, 0, 0, 0, 0, 0, 0, 0, 318, 343, 369, 488, 518], [0, 0, 0, 0, 0, 0, 0, 0, 0, 0, 0, 0, 0, 0, 0, 0, 0, 344, 370, 489, 519], [0, 0, 0, 0, 0, 0, 0, 0, 0, 0, 0, 0, 0, 0, 0, 0, 0, 0, 371, 490, 520], [0, 0, 0, 0, 0, 0, 0, 0, 0, 0, 0, 0, 0, 0, 0, 0, 0, 0, 0, 491, 521], [0, 0, 0, 0, 0, 0, 0, 0, 0, 0, 0, 0, 0, 0, 0, 0, 0, 0, 0, 0, 522], [0, 0, 0, 0, 0, 0, 0, 0, 0, 0, 0, 0, 0, 0, 0, 0, 0, 0, 0, 0, 0]] : List (List Nat)).getD i []).getD j 0
theorem nF_ex : ∀ i, i < 21 → nF[pE i]? = some (Cond.exactly (tmS i) "java/lang/String") := by decide +kernel
theorem nF_co : ∀ i, i < 21 → nF[pE i + 1]? = some (Cond.eq (.field (tmS i) "java/lang/String" "coder" "B") (.int 0)) := by decide +kernel
theorem nF_ar : ∀ i, i < 21 → nF[pE i + 2]? = some (Cond.arrayOf (.field (tmS i) "java/lang/String" "value" "[B") .byte) := by decide +kernel
theorem nF_le : ∀ i, i < 21 → nF[pE i + 3]? = some (Cond.eq (.length (.field (tmS i) "java/lang/String" "value" "[B")) (.int (Int32.ofNat (lenS.getD i 0)))) := by decide +kernel
theorem nF_el : ∀ i, i < 21 → ∀ j, j < lenS.getD i 0 → nF[pE i + 4 + j]? = some (Cond.eq (.elem (.field (tmS i) "java/lang/String" "value" "[B") (.int (Int32.ofNat j))) (.int ((bytS.getD i []).getD j 0))) := by decide +kernel
theorem nF_ne : ∀ i, i < 21 → ∀ j, j < 21 → i < j → nF[pQ i j]? = some (Cond.not (Cond.eq (tmS i) (tmS j))) := by decide +kernel
theorem nF_ln : ∀ i, i < 21 → lenS.getD i 0 < 2 ^ 31 := by decide +kernel
theorem nF_z : nF[4]? = some (Cond.eq (.static "java/lang/String" "COMPACT_STRINGS" "Z") (.int 1)) := by decide +kernel
theorem nF_q : nF[5]? = some (Cond.isRef (.static "jdk/internal/util/Preconditions" "SIOOBE_FORMATTER" "Ljava/util/function/BiFunction;")) := by decide +kernel
theorem nSt21 : nSt = 21 := by decide +kernel
theorem st_S {args : Array Value} {s : State} {A : Nat → Prop} (h : (Jvm.Cond.and given_1 narrow_1).before args s = true) (hA : ∀ a : Nat, a < s.heap.size → ¬ A a) : ∃ adK adV : Nat → Nat, vk_S nSt lenS bytS adK adV A s s.heap ∧ ∀ i : Nat, i < 21 → (tmS i).eval args s none [] s = some (.ref (adK i)) := by
  have hF : ∀ (k : Nat) (w : Cond), nF[k]? = some w → w.before args s = true := fun k w hw => flat_of_before _ h w (List.mem_of_getElem? hw)
  rw [nSt21]
  refine vk_Sof (tm := tmS) nF_ln (fun i hi => hF _ _ (nF_ex i hi)) (fun i hi => hF _ _ (nF_co i hi)) (fun i hi => hF _ _ (nF_ar i hi)) (fun i hi => hF _ _ (nF_le i hi)) (fun i hi j hj => hF _ _ (nF_el i hi j hj)) (fun i j hi hj hne => ?_) hA
  by_cases q : i < j
  · exact Or.inl (hF _ _ (nF_ne i hi j hj q))
  · exact Or.inr (hF _ _ (nF_ne j hj i hi (by omega)))
