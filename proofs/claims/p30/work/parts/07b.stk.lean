/-! one step of the small machine is a step of the machine: stack, locals, branches -/
theorem qi1_inv {g : Int32 → Option Value} {st st' : List Value} (h : qi1 g st = some st') : ∃ x r v, st = .int x :: r ∧ g x = some v ∧ st' = v :: r := by
  unfold qi1 at h
  split at h
  · rename_i x r
    obtain ⟨v, h1, h2⟩ := Option.map_eq_some_iff.mp h
    exact ⟨x, r, v, rfl, h1, h2.symm⟩
  · cases h
theorem qi2_inv {g : Int32 → Int32 → Option Value} {st st' : List Value} (h : qi2 g st = some st') : ∃ x y r v, st = .int y :: .int x :: r ∧ g x y = some v ∧ st' = v :: r := by
  unfold qi2 at h
  split at h
  · rename_i y x r
    obtain ⟨v, h1, h2⟩ := Option.map_eq_some_iff.mp h
    exact ⟨x, y, r, v, rfl, h1, h2.symm⟩
  · cases h
theorem ql2_inv {g : Int64 → Int64 → Option Value} {st st' : List Value} (h : ql2 g st = some st') : ∃ x y r v, st = .long y :: .long x :: r ∧ g x y = some v ∧ st' = v :: r := by
  unfold ql2 at h
  split at h
  · rename_i y x r
    obtain ⟨v, h1, h2⟩ := Option.map_eq_some_iff.mp h
    exact ⟨x, y, r, v, rfl, h1, h2.symm⟩
  · cases h
theorem qf2_inv {g : UInt32 → UInt32 → Option Value} {st st' : List Value} (h : qf2 g st = some st') : ∃ x y r v, st = .float y :: .float x :: r ∧ g x y = some v ∧ st' = v :: r := by
  unfold qf2 at h
  split at h
  · rename_i y x r
    obtain ⟨v, h1, h2⟩ := Option.map_eq_some_iff.mp h
    exact ⟨x, y, r, v, rfl, h1, h2.symm⟩
  · cases h
theorem qd2_inv {g : UInt64 → UInt64 → Option Value} {st st' : List Value} (h : qd2 g st = some st') : ∃ x y r v, st = .double y :: .double x :: r ∧ g x y = some v ∧ st' = v :: r := by
  unfold qd2 at h
  split at h
  · rename_i y x r
    obtain ⟨v, h1, h2⟩ := Option.map_eq_some_iff.mp h
    exact ⟨x, y, r, v, rfl, h1, h2.symm⟩
  · cases h
theorem qf1_inv {g : UInt32 → Option Value} {st st' : List Value} (h : qf1 g st = some st') : ∃ x r v, st = .float x :: r ∧ g x = some v ∧ st' = v :: r := by
  unfold qf1 at h
  split at h
  · rename_i x r
    obtain ⟨v, h1, h2⟩ := Option.map_eq_some_iff.mp h
    exact ⟨x, r, v, rfl, h1, h2.symm⟩
  · cases h
theorem qif_some {α : Type} {c : Prop} {d : Decidable c} {a b : α} (h : @ite (Option α) c d (some a) none = some b) : c ∧ a = b := by
  by_cases hc : c
  · rw [if_pos hc] at h
    exact ⟨hc, Option.some.inj h⟩
  · rw [if_neg hc] at h
    cases h
theorem qif_none {α : Type} {c : Prop} {d : Decidable c} {a b : α} (h : @ite (Option α) c d none (some a) = some b) : ¬ c ∧ a = b := by
  by_cases hc : c
  · rw [if_pos hc] at h
    cases h
  · rw [if_neg hc] at h
    exact ⟨hc, Option.some.inj h⟩
section QS1
variable {p : Program} {l : Launch} {e : Env} {R : Room} {s : State} {m : MethodId} {args : Array Value} {below : List Frame} {meth : Method} {c : Code} {H : Heap} {locs : List Loc} {cells slots : Nat} {Q : State → Prop}
variable {cc : ByteArray} {pc : Nat} {ls : Array Slot} {ad : Nat → Nat}
set_option maxHeartbeats 4000000 in
theorem qs_pl (hx : p.tables.exec = Jvm.exec) (hb : c.code = cc) {i : Instr} {st st' : List Value} (h : q_pl i st = some st') (hd : decode cc pc = .ok (i, q_len i))
    (k : W p l e R s m args below meth c H locs cells slots Q (F0 m (pc + q_len i) ls (st'.map (qt ad)))) : W p l e R s m args below meth c H locs cells slots Q (F0 m pc ls (st.map (qt ad))) := by
  cases i
  case iconst n =>
    cases (show some _ = some st' from h)
    exact lv_iconst hx hb hd rfl k
  case bipush n =>
    cases (show some _ = some st' from h)
    exact lv_bipush hx hb hd rfl k
  case sipush n =>
    cases (show some _ = some st' from h)
    exact lv_sipush hx hb hd rfl k
  case lconst n =>
    cases (show some _ = some st' from h)
    exact lv_lconst hx hb hd rfl k
  case fconst n =>
    obtain ⟨hn, hv⟩ := qif_some (show (if n = 0 then some (Value.float FP.fconst0 :: st) else none) = some st' from h)
    subst hn
    cases hv
    exact lv_fconst0 hx hb hd k
  case dconst n =>
    obtain ⟨hn, hv⟩ := qif_some (show (if n = 0 then some (Value.double FP.dconst0 :: st) else none) = some st' from h)
    subst hn
    cases hv
    exact lv_dconst0 hx hb hd k
  case iadd =>
    obtain ⟨x, y, r, v, rfl, hg, rfl⟩ := qi2_inv h
    cases hg
    exact lv_iadd hx hb hd k
  case isub =>
    obtain ⟨x, y, r, v, rfl, hg, rfl⟩ := qi2_inv h
    cases hg
    exact lv_isub hx hb hd k
  case imul =>
    obtain ⟨x, y, r, v, rfl, hg, rfl⟩ := qi2_inv h
    cases hg
    exact lv_imul hx hb hd k
  case iand =>
    obtain ⟨x, y, r, v, rfl, hg, rfl⟩ := qi2_inv h
    cases hg
    exact lv_iand hx hb hd k
  case ior =>
    obtain ⟨x, y, r, v, rfl, hg, rfl⟩ := qi2_inv h
    cases hg
    exact lv_ior hx hb hd k
  case ixor =>
    obtain ⟨x, y, r, v, rfl, hg, rfl⟩ := qi2_inv h
    cases hg
    exact lv_ixor hx hb hd k
  case ishl =>
    obtain ⟨x, y, r, v, rfl, hg, rfl⟩ := qi2_inv h
    cases hg
    exact lv_ishl hx hb hd k
  case ishr =>
    obtain ⟨x, y, r, v, rfl, hg, rfl⟩ := qi2_inv h
    cases hg
    exact lv_ishr hx hb hd k
  case iushr =>
    obtain ⟨x, y, r, v, rfl, hg, rfl⟩ := qi2_inv h
    cases hg
    exact lv_iushr hx hb hd rfl k
  case idiv =>
    obtain ⟨x, y, r, v, rfl, hg, rfl⟩ := qi2_inv h
    obtain ⟨hne, rfl⟩ := qif_none hg
    exact lv_idiv hx hb hd hne k
  case irem =>
    obtain ⟨x, y, r, v, rfl, hg, rfl⟩ := qi2_inv h
    obtain ⟨hne, rfl⟩ := qif_none hg
    exact lv_irem hx hb hd hne k
  case i2c =>
    obtain ⟨x, r, v, rfl, hg, rfl⟩ := qi1_inv h
    cases hg
    exact lv_i2c hx hb hd rfl k
  case i2l =>
    obtain ⟨x, r, v, rfl, hg, rfl⟩ := qi1_inv h
    cases hg
    exact lv_i2l hx hb hd rfl k
  case i2d =>
    obtain ⟨x, r, v, rfl, hg, rfl⟩ := qi1_inv h
    cases hg
    exact lv_i2d hx hb hd k
  case i2f =>
    obtain ⟨x, r, v, rfl, hg, rfl⟩ := qi1_inv h
    cases hg
    exact lv_i2f hx hb hd k
  case ladd =>
    obtain ⟨x, y, r, v, rfl, hg, rfl⟩ := ql2_inv h
    cases hg
    exact lv_ladd hx hb hd k
  case lmul =>
    obtain ⟨x, y, r, v, rfl, hg, rfl⟩ := ql2_inv h
    cases hg
    exact lv_lmul hx hb hd k
  case lcmp =>
    obtain ⟨x, y, r, v, rfl, hg, rfl⟩ := ql2_inv h
    cases hg
    exact W.lcmp hx hb hd k
  case ddiv =>
    obtain ⟨x, y, r, v, rfl, hg, rfl⟩ := qd2_inv h
    obtain ⟨hne, rfl⟩ := qif_some hg
    exact lv_ddiv hx hb hd hne k
  case fdiv =>
    obtain ⟨x, y, r, v, rfl, hg, rfl⟩ := qf2_inv h
    obtain ⟨hne, rfl⟩ := qif_some hg
    exact lv_fdiv hx hb hd hne k
  case f2d =>
    obtain ⟨x, r, v, rfl, hg, rfl⟩ := qf1_inv h
    obtain ⟨hne, rfl⟩ := qif_some hg
    exact lv_f2d hx hb hd hne k
  case dcmp op =>
    obtain ⟨x, y, r, v, rfl, hg, rfl⟩ := qd2_inv h
    cases hg
    exact lv_dcmp hx hb hd k
  case fcmp op =>
    obtain ⟨x, y, r, v, rfl, hg, rfl⟩ := qf2_inv h
    cases hg
    exact lv_fcmp hx hb hd k
  case dup =>
    cases st with
    | nil => exact absurd (show (none : Option (List Value)) = some st' from h) (fun q => by cases q)
    | cons v r =>
      obtain ⟨hc, rfl⟩ := qif_some (show (if qcat1 v = true then some (v :: v :: r) else none) = some st' from h)
      exact lv_dup hx hb hd ((qt_cat ad v).trans (by simpa [qcat1] using hc)) k
  case dup2 =>
    cases st with
    | nil => exact absurd (show (none : Option (List Value)) = some st' from h) (fun q => by cases q)
    | cons v r =>
      cases r with
      | nil => exact absurd (show (none : Option (List Value)) = some st' from h) (fun q => by cases q)
      | cons w r =>
        obtain ⟨hc, rfl⟩ := qif_some (show (if qcat1 v = true ∧ qcat1 w = true then some (v :: w :: v :: w :: r) else none) = some st' from h)
        exact lv_dup2_11 hx hb hd ((qt_cat ad v).trans (by simpa [qcat1] using hc.1)) ((qt_cat ad w).trans (by simpa [qcat1] using hc.2)) k
  all_goals exact absurd (show (none : Option (List Value)) = some st' from h) (fun q => by cases q)
theorem qdoLd_inv {kd n : Nat} {L : qL} {st st' : List Value} (h : qdoLd kd n L st = some st') : ∃ v, L[n]? = some (some v) ∧ q_kind v = kd ∧ st' = v :: st := by
  unfold qdoLd at h
  split at h
  · rename_i v hv
    obtain ⟨h1, h2⟩ := qif_some h
    exact ⟨v, hv, h1, h2.symm⟩
  · cases h
theorem qk0 {v : Value} (h : q_kind v = 0) : ∃ x, v = .int x := by cases v <;> first | exact ⟨_, rfl⟩ | exact absurd h (by simp [q_kind])
theorem qk1 {v : Value} (h : q_kind v = 1) : ∃ x, v = .long x := by cases v <;> first | exact ⟨_, rfl⟩ | exact absurd h (by simp [q_kind])
theorem qk2 {v : Value} (h : q_kind v = 2) : ∃ x, v = .float x := by cases v <;> first | exact ⟨_, rfl⟩ | exact absurd h (by simp [q_kind])
theorem qk3 {v : Value} (h : q_kind v = 3) : ∃ x, v = .double x := by cases v <;> first | exact ⟨_, rfl⟩ | exact absurd h (by simp [q_kind])
theorem qk4 {v : Value} (h : q_kind v = 4) : ∃ x, v = .ref x := by cases v <;> first | exact ⟨_, rfl⟩ | exact absurd h (by simp [q_kind])
set_option maxHeartbeats 4000000 in
theorem qs_ld (hx : p.tables.exec = Jvm.exec) (hb : c.code = cc) {i : Instr} {kd n nL : Nat} {L : qL} {st st' : List Value} (hi : q_ld i = some (kd, n)) (h : qdoLd kd n L st = some st') (hl : qLs ad ls nL L) (hd : decode cc pc = .ok (i, q_len i))
    (k : W p l e R s m args below meth c H locs cells slots Q (F0 m (pc + q_len i) ls (st'.map (qt ad)))) : W p l e R s m args below meth c H locs cells slots Q (F0 m pc ls (st.map (qt ad))) := by
  obtain ⟨v, hv, hkd, rfl⟩ := qdoLd_inv h
  have hls := hl.ld hv
  cases i
  case iload z =>
    cases (show some (0, z) = some (kd, n) from hi)
    obtain ⟨x, rfl⟩ := qk0 hkd
    exact lv_iload hx hb hd hls k
  case lload z =>
    cases (show some (1, z) = some (kd, n) from hi)
    obtain ⟨x, rfl⟩ := qk1 hkd
    exact lv_lload hx hb hd hls k
  case fload z =>
    cases (show some (2, z) = some (kd, n) from hi)
    obtain ⟨x, rfl⟩ := qk2 hkd
    exact lv_fload hx hb hd hls k
  case dload z =>
    cases (show some (3, z) = some (kd, n) from hi)
    obtain ⟨x, rfl⟩ := qk3 hkd
    exact lv_dload hx hb hd hls k
  case aload z =>
    cases (show some (4, z) = some (kd, n) from hi)
    obtain ⟨x, rfl⟩ := qk4 hkd
    exact lv_aload hx hb hd hls k
  case iload_n z =>
    cases (show some (0, (z : Nat)) = some (kd, n) from hi)
    obtain ⟨x, rfl⟩ := qk0 hkd
    exact lv_iload_n hx hb hd rfl hls k
  case lload_n z =>
    cases (show some (1, (z : Nat)) = some (kd, n) from hi)
    obtain ⟨x, rfl⟩ := qk1 hkd
    exact lv_lload_n hx hb hd rfl hls k
  case aload_n z =>
    cases (show some (4, (z : Nat)) = some (kd, n) from hi)
    obtain ⟨x, rfl⟩ := qk4 hkd
    exact lv_aload_n hx hb hd rfl hls k
  all_goals exact absurd (show (none : Option (Nat × Nat)) = some (kd, n) from hi) (fun q => by cases q)
theorem qdoSt_inv {kd n : Nat} {L L' : qL} {st st' : List Value} (h : qdoSt kd n L st = some (L', st')) : ∃ v, st = v :: st' ∧ q_kind v = kd ∧ (((kd = 1 ∨ kd = 3) ∧ n + 1 < L.length ∧ L' = qset2 L n (some v)) ∨ (¬ (kd = 1 ∨ kd = 3) ∧ n < L.length ∧ L' = qset1 L n (some v))) := by
  unfold qdoSt at h
  split at h
  · rename_i v r
    by_cases h1 : q_kind v = kd
    · rw [if_pos h1] at h
      by_cases h2 : kd = 1 ∨ kd = 3
      · rw [if_pos h2] at h
        obtain ⟨h3, h4⟩ := qif_some h
        cases h4
        exact ⟨v, rfl, h1, Or.inl ⟨h2, h3, rfl⟩⟩
      · rw [if_neg h2] at h
        obtain ⟨h3, h4⟩ := qif_some h
        cases h4
        exact ⟨v, rfl, h1, Or.inr ⟨h2, h3, rfl⟩⟩
    · rw [if_neg h1] at h
      cases h
  · cases h
set_option maxHeartbeats 4000000 in
theorem qs_st (hx : p.tables.exec = Jvm.exec) (hb : c.code = cc) {i : Instr} {kd n nL : Nat} {L L' : qL} {st st' : List Value} (hi : q_sto i = some (kd, n)) (h : qdoSt kd n L st = some (L', st')) (hl : qLs ad ls nL L) (hd : decode cc pc = .ok (i, q_len i))
    (k : ∀ ls', qLs ad ls' nL L' → W p l e R s m args below meth c H locs cells slots Q (F0 m (pc + q_len i) ls' (st'.map (qt ad)))) : W p l e R s m args below meth c H locs cells slots Q (F0 m pc ls (st.map (qt ad))) := by
  obtain ⟨v, rfl, hkd, hL⟩ := qdoSt_inv h
  have hlen := hl.1
  cases i
  case istore z =>
    cases (show some (0, z) = some (kd, n) from hi)
    obtain ⟨x, rfl⟩ := qk0 hkd
    rcases hL with ⟨h3, -⟩ | ⟨-, h3, rfl⟩
    · exact absurd h3 (by decide)
    · exact lv_istore hx hb hd hl.2 (by omega) rfl (fun ls' hl' => k ls' (hl.st1 _ (fun y hy => by cases hy; rfl) hl'))
  case lstore z =>
    cases (show some (1, z) = some (kd, n) from hi)
    obtain ⟨x, rfl⟩ := qk1 hkd
    rcases hL with ⟨-, h3, rfl⟩ | ⟨h3, -⟩
    · exact lv_lstore hx hb hd hl.2 (by omega) rfl (fun ls' hl' => k ls' (hl.st2 rfl hl'))
    · exact absurd h3 (by decide)
  case fstore z =>
    cases (show some (2, z) = some (kd, n) from hi)
    obtain ⟨x, rfl⟩ := qk2 hkd
    rcases hL with ⟨h3, -⟩ | ⟨-, h3, rfl⟩
    · exact absurd h3 (by decide)
    · exact lv_fstore hx hb hd hl.2 (by omega) rfl (fun ls' hl' => k ls' (hl.st1 _ (fun y hy => by cases hy; rfl) hl'))
  case dstore z =>
    cases (show some (3, z) = some (kd, n) from hi)
    obtain ⟨x, rfl⟩ := qk3 hkd
    rcases hL with ⟨-, h3, rfl⟩ | ⟨h3, -⟩
    · exact lv_dstore hx hb hd hl.2 (by omega) rfl (fun ls' hl' => k ls' (hl.st2 rfl hl'))
    · exact absurd h3 (by decide)
  case astore z =>
    cases (show some (4, z) = some (kd, n) from hi)
    obtain ⟨x, rfl⟩ := qk4 hkd
    rcases hL with ⟨h3, -⟩ | ⟨-, h3, rfl⟩
    · exact absurd h3 (by decide)
    · exact lv_astore hx hb hd hl.2 (by omega) rfl (fun ls' hl' => k ls' (hl.st1 _ (fun y hy => by cases hy; rfl) hl'))
  case istore_n z =>
    cases (show some (0, (z : Nat)) = some (kd, n) from hi)
    obtain ⟨x, rfl⟩ := qk0 hkd
    rcases hL with ⟨h3, -⟩ | ⟨-, h3, rfl⟩
    · exact absurd h3 (by decide)
    · exact lv_istore_n hx hb hd rfl hl.2 (by omega) rfl (fun ls' hl' => k ls' (hl.st1 _ (fun y hy => by cases hy; rfl) hl'))
  case lstore_n z =>
    cases (show some (1, (z : Nat)) = some (kd, n) from hi)
    obtain ⟨x, rfl⟩ := qk1 hkd
    rcases hL with ⟨-, h3, rfl⟩ | ⟨h3, -⟩
    · exact lv_lstore_n hx hb hd rfl hl.2 (by omega) rfl (fun ls' hl' => k ls' (hl.st2 rfl hl'))
    · exact absurd h3 (by decide)
  case astore_n z =>
    cases (show some (4, (z : Nat)) = some (kd, n) from hi)
    obtain ⟨x, rfl⟩ := qk4 hkd
    rcases hL with ⟨h3, -⟩ | ⟨-, h3, rfl⟩
    · exact absurd h3 (by decide)
    · exact lv_astore_n hx hb hd rfl hl.2 (by omega) rfl (fun ls' hl' => k ls' (hl.st1 _ (fun y hy => by cases hy; rfl) hl'))
  all_goals exact absurd (show (none : Option (Nat × Nat)) = some (kd, n) from hi) (fun q => by cases q)
set_option maxHeartbeats 4000000 in
theorem qs_br (hx : p.tables.exec = Jvm.exec) (hb : c.code = cc) {i : Instr} {a : Nat} {t : Bool} {st st' : List Value} (h : q_br i st = some (t, st')) (hd : decode cc pc = .ok (i, 3)) (ha : (pc : Int) + q_off i = (a : Int))
    (k : W p l e R s m args below meth c H locs cells slots Q (F0 m (if t = true then a else pc + 3) ls (st'.map (qt ad)))) : W p l e R s m args below meth c H locs cells slots Q (F0 m pc ls (st.map (qt ad))) := by
  cases i
  case goto z =>
    cases (show some (true, st) = some (t, st') from h)
    exact lv_goto hx hb hd ha k
  case ifCond cnd z =>
    cases st with
    | nil => exact absurd (show (none : Option (Bool × List Value)) = some (t, st') from h) (fun q => by cases q)
    | cons v r =>
      cases v with
      | int x =>
        cases cnd
        case eq =>
          cases (show some (decide (x = 0), r) = some (t, st') from h)
          exact lv_if_eq hx hb hd ha (fun q => by simpa [q] using k) (fun q => by simpa [q] using k)
        case ne =>
          cases (show some (decide (¬ x = 0), r) = some (t, st') from h)
          exact lv_if_ne hx hb hd ha (fun q => by simpa [q] using k) (fun q => by simpa [q] using k)
        case lt =>
          cases (show some (decide (x < 0), r) = some (t, st') from h)
          exact lv_if_lt hx hb hd ha (fun q => by simpa [q] using k) (fun q => by simpa [q] using k)
        case ge =>
          cases (show some (decide (0 ≤ x), r) = some (t, st') from h)
          exact lv_if_ge hx hb hd ha (fun q => by simpa [q] using k) (fun q => by simpa [q] using k)
        case gt =>
          cases (show some (decide (0 < x), r) = some (t, st') from h)
          exact lv_if_gt hx hb hd ha (fun q => by simpa [q] using k) (fun q => by simpa [q] using k)
        case le =>
          cases (show some (decide (x ≤ 0), r) = some (t, st') from h)
          exact lv_if_le hx hb hd ha (fun q => by simpa [q] using k) (fun q => by simpa [q] using k)
      | _ => exact absurd (show (none : Option (Bool × List Value)) = some (t, st') from h) (fun q => by cases q)
  case if_icmp cnd z =>
    cases st with
    | nil => exact absurd (show (none : Option (Bool × List Value)) = some (t, st') from h) (fun q => by cases q)
    | cons v r =>
      cases r with
      | nil => exact absurd h (by cases v <;> exact fun q => by cases q)
      | cons w r =>
        cases v with
        | int y =>
          cases w with
          | int x =>
            cases cnd
            case eq =>
              cases (show some (decide (x = y), r) = some (t, st') from h)
              exact lv_icmp_eq hx hb hd ha (fun q => by simpa [q] using k) (fun q => by simpa [q] using k)
            case ne =>
              cases (show some (decide (¬ x = y), r) = some (t, st') from h)
              exact lv_icmp_ne hx hb hd ha (fun q => by simpa [q] using k) (fun q => by simpa [q] using k)
            case lt =>
              cases (show some (decide (x < y), r) = some (t, st') from h)
              exact lv_icmp_lt hx hb hd ha (fun q => by simpa [q] using k) (fun q => by simpa [q] using k)
            case ge =>
              cases (show some (decide (y ≤ x), r) = some (t, st') from h)
              exact lv_icmp_ge hx hb hd ha (fun q => by simpa [q] using k) (fun q => by simpa [q] using k)
            case gt =>
              cases (show some (decide (y < x), r) = some (t, st') from h)
              exact lv_icmp_gt hx hb hd ha (fun q => by simpa [q] using k) (fun q => by simpa [q] using k)
            case le =>
              cases (show some (decide (x ≤ y), r) = some (t, st') from h)
              exact lv_icmp_le hx hb hd ha (fun q => by simpa [q] using k) (fun q => by simpa [q] using k)
          | _ => exact absurd (show (none : Option (Bool × List Value)) = some (t, st') from h) (fun q => by cases q)
        | _ => exact absurd (show (none : Option (Bool × List Value)) = some (t, st') from h) (fun q => by cases q)
  all_goals exact absurd (show (none : Option (Bool × List Value)) = some (t, st') from h) (fun q => by cases q)
end QS1
