/-! cell and low -/
def cellV (L : Nat) (xs : Nat → Int32) (k : Nat) : Int32 := if L ≤ k then 40503 * nI k + 4021 else xs k
theorem w_cell {L k : Nat} {xs : Nat → Int32} {M : qM} {Q : qR → qM → Prop} (h : M[qSCR]? = none) (hL : L ≤ 260) (hk : k < 1000) : clz (some (L, xs)) 101 [.ref qSCR, .int (nI k)] M Q ↔ Q (.inl (some (.int (cellV L xs k)))) M := by
  have e : (nI L ≤ nI k) = (L ≤ k) := propext (nI_leI (by omega) (by omega))
  rw [ez_101]
  unfold cellV
  by_cases hq : L ≤ k
  · simp only [z_101_0, z_101_1, z_101_2, z_101_3, z_101_6, z_101_7, z_101_8, z_101_9, z_101_12, z_101_14, z_101_15, z_101_16, z_101_19, z_101_20, qOb_some, krz_v, krz_n, qinv_i, qinv_r, qinv_0, qinv_l, Nat.reduceAdd, List.getElem?_cons_zero, List.getElem?_cons_succ, List.set_cons_zero, List.set_cons_succ, List.length_cons, List.length_nil, not_true_eq_false, not_false_eq_true, false_implies, true_implies, and_true, true_and, and_false, false_and, if_true, if_false, forall_const, or_true, true_or, false_or, or_false, len_S h, e, hq]
  · simp only [z_101_0, z_101_1, z_101_2, z_101_3, z_101_6, z_101_7, z_101_8, z_101_9, z_101_12, z_101_14, z_101_15, z_101_16, z_101_19, z_101_20, qOb_some, krz_v, krz_n, qinv_i, qinv_r, qinv_0, qinv_l, Nat.reduceAdd, List.getElem?_cons_zero, List.getElem?_cons_succ, List.set_cons_zero, List.set_cons_succ, List.length_cons, List.length_nil, not_true_eq_false, not_false_eq_true, false_implies, true_implies, and_true, true_and, and_false, false_and, if_true, if_false, forall_const, or_true, true_or, false_or, or_false, len_S h, e, hq, ald_S h (show k < L by omega) hL]
def lowV (v : Int32) (m : Nat) : Nat := (v &&& 2147483647).toBitVec.toNat % m
theorem lowV_lt {v : Int32} {m : Nat} (h : 0 < m) : lowV v m < m := Nat.mod_lt _ h
theorem and_max (z : Int32) : z &&& 2147483647 = nI (z &&& 2147483647).toBitVec.toNat ∧ (z &&& 2147483647).toBitVec.toNat < 2147483648 := by
  constructor
  · apply Int32.toBitVec_inj.mp
    simp only [nI, Int32.toBitVec_ofNat']
    apply BitVec.eq_of_toNat_eq
    simp only [BitVec.toNat_ofNat]
    exact (Nat.mod_eq_of_lt (z &&& 2147483647).toBitVec.isLt).symm
  · rw [Int32.toBitVec_and, BitVec.toNat_and]
    have : (2147483647 : Int32).toBitVec.toNat = 2147483647 := by decide
    rw [this]
    exact Nat.lt_of_le_of_lt Nat.and_le_right (by decide)
theorem w_low {Z : qScr} {v : Int32} {m : Nat} {M : qM} {Q : qR → qM → Prop} (h0 : 0 < m) (hm : m < 1000000) : clz Z 102 [.int v, .int (nI m)] M Q ↔ Q (.inl (some (.int (nI (lowV v m))))) M := by
  obtain ⟨e1, e2⟩ := and_max v
  have e3 : ¬ nI m = 0 := nI_ne0 h0 (by omega)
  rw [ez_102]
  unfold lowV
  simp only [z_102_0, z_102_1, z_102_3, z_102_4, z_102_5, z_102_6, qOb_some, krz_v, krz_n, qinv_i, qinv_r, qinv_0, qinv_l, Nat.reduceAdd, List.getElem?_cons_zero, List.getElem?_cons_succ, List.set_cons_zero, List.set_cons_succ, List.length_cons, List.length_nil, not_true_eq_false, not_false_eq_true, false_implies, true_implies, and_true, true_and, and_false, false_and, if_true, if_false, forall_const, or_true, true_or, false_or, or_false, e3]
  revert e1 e2
  generalize (v &&& 2147483647).toBitVec.toNat = a
  intro e1 e2
  rw [e1, pk_rem (show a < 2 ^ 31 by omega) h0 (show m < 2 ^ 31 by omega)]
theorem w_low2 {Z : qScr} {v : Int32} {M : qM} {Q : qR → qM → Prop} : clz Z 102 [.int v, .int 2] M Q ↔ Q (.inl (some (.int (nI (lowV v 2))))) M := w_low (m := 2) (by decide) (by decide)
theorem w_low3 {Z : qScr} {v : Int32} {M : qM} {Q : qR → qM → Prop} : clz Z 102 [.int v, .int 3] M Q ↔ Q (.inl (some (.int (nI (lowV v 3))))) M := w_low (m := 3) (by decide) (by decide)
theorem w_low4 {Z : qScr} {v : Int32} {M : qM} {Q : qR → qM → Prop} : clz Z 102 [.int v, .int 4] M Q ↔ Q (.inl (some (.int (nI (lowV v 4))))) M := w_low (m := 4) (by decide) (by decide)
theorem w_low5 {Z : qScr} {v : Int32} {M : qM} {Q : qR → qM → Prop} : clz Z 102 [.int v, .int 5] M Q ↔ Q (.inl (some (.int (nI (lowV v 5))))) M := w_low (m := 5) (by decide) (by decide)
theorem w_low7 {Z : qScr} {v : Int32} {M : qM} {Q : qR → qM → Prop} : clz Z 102 [.int v, .int 7] M Q ↔ Q (.inl (some (.int (nI (lowV v 7))))) M := w_low (m := 7) (by decide) (by decide)
theorem w_low9 {Z : qScr} {v : Int32} {M : qM} {Q : qR → qM → Prop} : clz Z 102 [.int v, .int 9] M Q ↔ Q (.inl (some (.int (nI (lowV v 9))))) M := w_low (m := 9) (by decide) (by decide)
theorem w_low60 {Z : qScr} {v : Int32} {M : qM} {Q : qR → qM → Prop} : clz Z 102 [.int v, .int 60] M Q ↔ Q (.inl (some (.int (nI (lowV v 60))))) M := w_low (m := 60) (by decide) (by decide)
theorem w_low97 {Z : qScr} {v : Int32} {M : qM} {Q : qR → qM → Prop} : clz Z 102 [.int v, .int 97] M Q ↔ Q (.inl (some (.int (nI (lowV v 97))))) M := w_low (m := 97) (by decide) (by decide)
theorem w_lowS {Z : qScr} {v : Int32} {M : qM} {Q : qR → qM → Prop} : clz Z 102 [.int v, .int 100000] M Q ↔ Q (.inl (some (.int (nI (lowV v 100000))))) M := w_low (m := 100000) (by decide) (by decide)
theorem w_cellK {L : Nat} (k : Nat) {i : Int32} {xs : Nat → Int32} {M : qM} {Q : qR → qM → Prop} (hi : i = nI k) (h : M[qSCR]? = none) (hL : L ≤ 260) (hk : k < 1000) : clz (some (L, xs)) 101 [.ref qSCR, .int i] M Q ↔ Q (.inl (some (.int (cellV L xs k)))) M := by
  subst hi
  exact w_cell h hL hk
/-- what locals and operands refer to -/
def okL (l : Option Value) : Prop := ∀ x, l = some x → qscV 0 x = true
theorem okL_i {x : Int32} : okL (some (.int x)) := fun y h => by cases h; rfl
theorem okL_0 : okL none := fun y h => by cases h
theorem qL_n {n : Nat} : qscL n [] = true := rfl
theorem qL_r {n a : Nat} {L : qL} (h : a < n) (hL : qscL n L = true) : qscL n (some (.ref a) :: L) = true := qscL_c.mpr ⟨fun x q => by cases q; exact qscV_r h, hL⟩
theorem qL_s {n : Nat} {L : qL} (hL : qscL n L = true) : qscL n (some (.ref qSCR) :: L) = true := qscL_c.mpr ⟨fun x q => by cases q; simp [qscV], hL⟩
theorem qL_i {n : Nat} {x : Int32} {L : qL} (hL : qscL n L = true) : qscL n (some (.int x) :: L) = true := qscL_c.mpr ⟨fun x q => by cases q; rfl, hL⟩
theorem qL_l {n : Nat} {x : Int64} {L : qL} (hL : qscL n L = true) : qscL n (some (.long x) :: L) = true := qscL_c.mpr ⟨fun x q => by cases q; rfl, hL⟩
theorem qL_0 {n : Nat} {L : qL} (hL : qscL n L = true) : qscL n (none :: L) = true := qscL_c.mpr ⟨fun x q => (by cases q), hL⟩
theorem qL_o {n : Nat} {l : Option Value} {L : qL} (h : okL l) (hL : qscL n L = true) : qscL n (l :: L) = true := qscL_c.mpr ⟨fun x q => qscV_mono (Nat.zero_le _) (h x q), hL⟩
theorem qS_n {n : Nat} : qscS n [] = true := rfl
theorem qS_i {n : Nat} {x : Int32} {st : List Value} (h : qscS n st = true) : qscS n (.int x :: st) = true := qscS_c.mpr ⟨rfl, h⟩
theorem qS_r {n a : Nat} {st : List Value} (ha : a < n) (h : qscS n st = true) : qscS n (.ref a :: st) = true := qscS_c.mpr ⟨qscV_r ha, h⟩
theorem app_set {M : qM} {x y : qE} : (M ++ [x]).set M.length y = M ++ [y] := by
  rw [List.set_append_right _ _ (Nat.le_refl _), Nat.sub_self]
  rfl
