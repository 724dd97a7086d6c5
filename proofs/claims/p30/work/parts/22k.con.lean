/-! the constructor, by evaluation: what the object is at first -/
def bV (a b : Value) : Bool := match a, b with
  | .int x, .int y => decide (x = y)
  | .ref x, .ref y => decide (x = y)
  | _, _ => false
theorem bV_eq {a b : Value} (h : bV a b = true) : a = b := by
  cases a with
  | int x =>
    cases b with
    | int y => exact congrArg Value.int (of_decide_eq_true h)
    | _ => cases h
  | ref x =>
    cases b with
    | ref y => exact congrArg Value.ref (of_decide_eq_true h)
    | _ => cases h
  | _ => cases h
def bVs : List Value → List Value → Bool
  | [], [] => true
  | a :: r, b :: s => bV a b && bVs r s
  | _, _ => false
theorem bVs_eq : ∀ {a b : List Value}, bVs a b = true → a = b
  | [], [], _ => rfl
  | a :: r, b :: s, h => by
    unfold bVs at h
    rw [Bool.and_eq_true] at h
    rw [bV_eq h.1, bVs_eq h.2]
  | [], _ :: _, h => by cases h
  | _ :: _, [], h => by cases h
def bObj (M : qM) (o c : Nat) (fs : List Value) : Bool := match M[o]? with
  | some (.inr (c', fs')) => decide (c' = c) && bVs fs' fs
  | _ => false
theorem bObj_eq {M : qM} {o c : Nat} {fs : List Value} (h : bObj M o c fs = true) : M[o]? = some (.inr (c, fs)) := by
  unfold bObj at h
  split at h
  · rename_i c' fs' hm
    rw [Bool.and_eq_true, decide_eq_true_eq] at h
    rw [hm, h.1, bVs_eq h.2]
  · cases h
def bArr (M : qM) (o t n : Nat) (v : Int32) : Bool := match M[o]? with
  | some (.inl (t', m, .inl f)) => decide (t' = t) && (decide (m = n) && (List.range n).all (fun k => decide (f k = v)))
  | _ => false
theorem bArr_eq {M : qM} {o t n : Nat} {v : Int32} (h : bArr M o t n v = true) : ∃ f, M[o]? = some (.inl (t, n, .inl f)) ∧ ∀ k, k < n → f k = v := by
  unfold bArr at h
  split at h
  · rename_i t' m f hm
    rw [Bool.and_eq_true, Bool.and_eq_true, decide_eq_true_eq, decide_eq_true_eq, List.all_eq_true] at h
    obtain ⟨h1, h2, h3⟩ := h
    subst h1; subst h2
    exact ⟨f, hm, fun k hk => of_decide_eq_true (h3 k (List.mem_range.mpr hk))⟩
  · cases h
def bRow (M : qM) (o n : Nat) (v : Int32) : Bool := bObj M o 5 [.ref (o + 1)] && bArr M (o + 1) 0 n v
theorem bRow_eq {M : qM} {o n : Nat} {v : Int32} (h : bRow M o n v = true) : ∃ f, RowAt M o n f ∧ ∀ k, k < n → f k = v := by
  unfold bRow at h
  rw [Bool.and_eq_true] at h
  obtain ⟨f, h1, h2⟩ := bArr_eq h.2
  exact ⟨f, ⟨bObj_eq h.1, h1⟩, h2⟩
def bNar (M : qM) (o G : Nat) : Bool := bObj M o 3 [.ref 1, .ref G, .ref (o + 1), .ref (o + 3), .ref (o + 5), .int 0] && (bRow M (o + 1) 36 0 && (bRow M (o + 3) 36 0 && bRow M (o + 5) 36 0))
theorem bNar_eq {M : qM} {o G : Nat} (h : bNar M o G = true) : NarIdle M o G := by
  unfold bNar at h
  rw [Bool.and_eq_true, Bool.and_eq_true, Bool.and_eq_true] at h
  obtain ⟨h1, h2, h3, h4⟩ := h
  obtain ⟨f2, r2, -⟩ := bRow_eq h2
  obtain ⟨f3, r3, v3⟩ := bRow_eq h3
  obtain ⟨f4, r4, -⟩ := bRow_eq h4
  exact ⟨bObj_eq h1, ⟨f2, r2⟩, ⟨f3, r3, v3⟩, ⟨f4, r4⟩⟩
def bPla (M : qM) (o G : Nat) : Bool := bObj M o 4 [.ref 1, .ref G, .ref (o + 1), .ref (o + 3), .ref (o + 5), .ref (o + 7)] && (bRow M (o + 1) 36 0 && (bRow M (o + 3) 8 0 && (bRow M (o + 5) 36 0 && bRow M (o + 7) 36 0)))
theorem bPla_eq {M : qM} {o G : Nat} (h : bPla M o G = true) : ∃ t0, PlaAt M o G 0 t0 := by
  unfold bPla at h
  rw [Bool.and_eq_true, Bool.and_eq_true, Bool.and_eq_true, Bool.and_eq_true] at h
  obtain ⟨h1, h2, h3, h4, h5⟩ := h
  obtain ⟨f2, r2, -⟩ := bRow_eq h2
  obtain ⟨f3, r3, -⟩ := bRow_eq h3
  obtain ⟨f4, r4, -⟩ := bRow_eq h4
  obtain ⟨f5, r5, -⟩ := bRow_eq h5
  exact ⟨fun _ => 0, bObj_eq h1, ⟨f2, r2, fun k hk => absurd hk (Nat.not_lt_zero _)⟩, ⟨f3, r3⟩, ⟨f4, r4⟩, ⟨f5, r5⟩⟩
def bFil (M : qM) (o a G Wo : Nat) : Bool := bObj M o 1 (FO a G Wo 0 0 0 0) && (bNar M (a + 8) G && (bRow M a 8 0 && (bRow M (a + 2) 1296 0 && (bRow M (a + 4) 36 0 && (bRow M (a + 6) 36 0 && bPla M (a + 15) G)))))
theorem bFil_eq {M : qM} {o a G Wo : Nat} (h : bFil M o a G Wo = true) : FObj M o a G Wo 0 0 0 0 ∧ NarIdle M (a + 8) G ∧ FRow M a 0 0 (fun _ _ => 0) (fun _ => 0) (fun _ => 0) ∧ ∃ t0, PlaAt M (a + 15) G 0 t0 := by
  unfold bFil at h
  rw [Bool.and_eq_true, Bool.and_eq_true, Bool.and_eq_true, Bool.and_eq_true, Bool.and_eq_true, Bool.and_eq_true] at h
  obtain ⟨h1, h2, h3, h4, h5, h6, h7⟩ := h
  obtain ⟨f3, r3, -⟩ := bRow_eq h3
  obtain ⟨f4, r4, -⟩ := bRow_eq h4
  obtain ⟨f5, r5, -⟩ := bRow_eq h5
  obtain ⟨f6, r6, -⟩ := bRow_eq h6
  exact ⟨bObj_eq h1, bNar_eq h2, ⟨⟨f3, r3⟩, ⟨f4, r4, fun i k hi => absurd hi (Nat.not_lt_zero _)⟩, ⟨f5, r5, fun i hi => absurd hi (Nat.not_lt_zero _)⟩, ⟨f6, r6, fun i hi => absurd hi (Nat.not_lt_zero _)⟩⟩, bPla_eq h7⟩
def bC (M : qM) : Bool := bObj M 0 9 (HO 0 0) && (bObj M 1 6 [.ref 2, .ref 4, .ref 6, .int 0] && (bRow M 2 32 0 && (bRow M 4 8 0 && (bRow M 6 16 0 && (bObj M 8 7 [.ref 9, .int 0] && (bRow M 9 8 (-1) && (bObj M 11 8 [.ref 1, .ref 12, .ref 13, .ref 15] && (bObj M 12 2 [.int 3, .int 3] && (bRow M 13 36 (-1) && (bRow M 15 36 0 && (bNar M 17 12 && (bNar M 24 12 && (bFil M 31 32 12 8 && (bPla M 56 12 && (bObj M 65 2 [.int 3, .int 3] && (bFil M 66 70 65 67 && (bObj M 67 7 [.ref 68, .int 0] && (bRow M 68 8 (-1) && (bObj M 94 0 [.ref 95, .ref 97, .ref 99, .int 0] && (bRow M 95 60 0 && (bRow M 97 30 0 && bRow M 99 270 0)))))))))))))))))))))
def T00 : TS := (0, fun _ _ => 0, fun _ => 0)
theorem TOk_00 : TOk T00 := ⟨Nat.zero_le _, fun t d ht => absurd ht (Nat.not_lt_zero _), fun t ht => absurd ht (Nat.not_lt_zero _)⟩
theorem bC_eq {M : qM} (hb : bC M = true) : InvC M T00 0 3 3 (fun _ => none) (fun _ => 0) (fun _ => none) false false (fun _ => 0) 0 0 0 (fun _ => 0) (fun _ => 0) (fun _ => 0) (fun _ _ => 0) := by
  unfold bC at hb
  simp only [Bool.and_eq_true] at hb
  obtain ⟨b1, b2, b3, b4, b5, b6, b7, b8, b9, b10, b11, b12, b13, b14, b15, b16, b17, b18, b19, b20, b21, b22, b23⟩ := hb
  obtain ⟨f3, r3, v3⟩ := bRow_eq b3
  obtain ⟨f4, r4, v4⟩ := bRow_eq b4
  obtain ⟨f5, r5, v5⟩ := bRow_eq b5
  obtain ⟨f7, r7, v7⟩ := bRow_eq b7
  obtain ⟨f10, r10, v10⟩ := bRow_eq b10
  obtain ⟨f11, r11, v11⟩ := bRow_eq b11
  obtain ⟨f19, r19, v19⟩ := bRow_eq b19
  obtain ⟨f21, r21, v21⟩ := bRow_eq b21
  obtain ⟨f22, r22, v22⟩ := bRow_eq b22
  obtain ⟨f23, r23, v23⟩ := bRow_eq b23
  obtain ⟨c1, c2, c3, c4⟩ := bFil_eq b14
  obtain ⟨d1, d2, d3, d4⟩ := bFil_eq b17
  refine ⟨bObj_eq b1, ⟨bObj_eq b2, ⟨f3, r3, fun t d ht => absurd ht (Nat.not_lt_zero _)⟩, ⟨f4, r4, fun t ht => absurd ht (Nat.not_lt_zero _)⟩, ⟨f5, r5, fun d q hd hq => v5 _ (by omega)⟩⟩, ⟨bObj_eq b6, f7, r7, fun t ht => v7 t ht⟩, ⟨bObj_eq b8, bObj_eq b9, ⟨f10, r10, fun k hk => v10 k (by omega)⟩, ⟨f11, r11, fun k hk => v11 k (by omega)⟩⟩, bNar_eq b12, bNar_eq b13, ⟨⟨0, 0, c1⟩, c2, c3, c4, fun q => by cases q⟩, bPla_eq b15, ⟨bObj_eq b16, ⟨0, 0, 0, 0, d1⟩, d2, d3, d4, ⟨bObj_eq b18, f19, r19, fun t ht => v19 t ht⟩⟩, ⟨bObj_eq b20, ⟨f21, r21, fun k hk => absurd hk (Nat.not_lt_zero _)⟩, ⟨f22, r22, fun k hk => absurd hk (Nat.not_lt_zero _)⟩, ⟨f23, r23, fun k c hk => absurd hk (Nat.not_lt_zero _)⟩⟩⟩
theorem SOk_00 : SOk T00 0 3 3 (fun _ => none) (fun _ => 0) (fun _ => none) false false (fun _ => 0) 0 0 0 (fun _ => 0) (fun _ => 0) (fun _ => 0) (fun _ _ => 0) :=
  ⟨TOk_00, ⟨d33, fun k _ => ⟨fun t q => (by cases q), (show 0 < 256 by decide)⟩⟩, by decide, fun t m q => (by cases q), fun q => (by cases q), Nat.zero_le _, fun i j hi => absurd hi (Nat.not_lt_zero _), fun k hk => absurd hk (Nat.not_lt_zero _)⟩
def z60 : Option (qR × qM) := q_exec 3000 none 60 (0, qloc 60 [.ref 0], [], [.inr (9, q_df 9)], 0, 0)
def zM (z : Option (qR × qM)) : qM := match z with
  | some (_, M) => M
  | none => []
def M60 : qM := zM z60
def bN (z : Option (qR × qM)) : Bool := match z with
  | some (.inl none, _) => true
  | _ => false
theorem bN_eq {z : Option (qR × qM)} (h : bN z = true) : z = some (.inl none, zM z) := by
  unfold bN at h
  split at h
  · rfl
  · cases h
set_option maxRecDepth 100000 in
theorem z_chk : (bN z60 && (decide (M60.length = 101) && (qscM 101 M60 && bC M60))) = true := by decide +kernel
