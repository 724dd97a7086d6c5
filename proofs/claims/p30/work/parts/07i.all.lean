/-! the simulation holds for every number of steps -/
theorem q_call_inv {x : qX} {st : List Value} {a : Nat} {as rest : List Value} (h : q_call x st = some (a, as, rest)) : a = x.2.2.1 ∧ as.length = x.2.2.2.1 ∧ st = as.reverse ++ rest ∧ q_cts rest ≤ 8 := by
  obtain ⟨i, len, a0, b, c9⟩ := x
  have key : (if b ≤ st.length ∧ q_cts (st.drop b) ≤ 8 then some (a0, (st.take b).reverse, st.drop b) else none) = some (a, as, rest) → a = a0 ∧ as.length = b ∧ st = as.reverse ++ rest ∧ q_cts rest ≤ 8 := by
    intro h
    obtain ⟨h1, h2⟩ := qif_some h
    cases h2
    refine ⟨rfl, by simp; omega, by simp, h1.2⟩
  cases i
  case invokevirtual => exact key h
  case invokestatic => exact key h
  case invokespecial => exact key h
  all_goals exact absurd (show (none : Option (Nat × List Value × List Value)) = some (a, as, rest) from h) (fun q => by cases q)
section QI
variable {p : Program} {l : Launch} {e : Env} {R : Room} {s : State} {m : MethodId} {args : Array Value} {below : List Frame} {meth : Method} {c : Code} {H : Heap} {locs : List Loc} {cells slots : Nat} {Q : State → Prop}
variable {pc j : Nat} {ls : Array Slot} {ad : Nat → Nat} {Ts : List Cond} {CA : Nat → ClassId} {D : va_G} {A : Nat → Prop} {M : qM}
theorem q_lib_inv {a : Nat} {as r : List Value} (h : q_lib a as = some r) : (a = 998 ∧ r = [] ∧ ∃ o, as = [.ref o]) ∨ (a = 999 ∧ ∃ x y, as = [.int x, .int y] ∧ r = [.int (if x < y then y else x)]) := by
  unfold q_lib at h
  split at h
  · rename_i o
    obtain ⟨h1, h2⟩ := qif_some h
    exact Or.inl ⟨h1, h2.symm, o, rfl⟩
  · rename_i x y
    obtain ⟨h1, h2⟩ := qif_some h
    exact Or.inr ⟨h1, x, y, rfl, h2.symm⟩
  · cases h
theorem qs_lib (C : qCx p l s m args meth c R j Ts CA D A) {x : qX} {as r rest st : List Value} (hc : q_chk j pc x = true) (hi : q_kd x.1 = 1) (h : q_lib x.2.2.1 as = some r) (hlen : as.length = x.2.2.2.1) (hst : st = as.reverse ++ rest) (hrest : q_cts rest ≤ 8) (hsz : ls.size = q_mL j) (hk : cells ≤ q_mc j) (hn : slots ≤ q_ms j)
    (k : W p l e R s m args below meth c H locs cells slots Q (F0 m (pc + 3) ls (List.map (qt ad) (r ++ rest)))) : W p l e R s m args below meth c H locs cells slots Q (F0 m pc ls (List.map (qt ad) st)) := by
  obtain ⟨⟨hx, hb, hml, hown⟩, ⟨hts, hgw⟩, -, ⟨hr1, hr2, hr3, hr4⟩, -⟩ := C
  obtain ⟨i, len, a, b, c9⟩ := x
  have hd := q_chk_dec hc
  unfold q_chk at hc
  simp only [Bool.and_eq_true, decide_eq_true_eq] at hc hd hi h hlen
  obtain ⟨-, hc⟩ := hc
  obtain ⟨w1, w2, w3, w4, w5⟩ := q_libw
  have hsum : ((List.map (qt ad) rest).map fun v => v.category).sum ≤ 8 := by rw [qcs_map]; exact hrest
  have lt9 : ∀ {oc idx cz : Nat}, q_isiv oc idx a cz = true → (cz = 0 ∨ cz = 2 ∨ cz = 3 ∨ cz = 4 ∨ cz = 5) → a < 110 := by
    intro oc idx cz h1 h2
    obtain ⟨i9, h3, -⟩ := q_iv_spec h1
    rcases h2 with rfl | rfl | rfl | rfl | rfl <;> simp only [q_ivB, Bool.and_eq_true, decide_eq_true_eq] at h3
    · exact h3.1.1.1
    · exact h3.1.1
    · exact h3.1
    · exact h3.1.1
    · exact h3.1
  have hbig : ¬ a < 110 := by
    rcases q_lib_inv h with ⟨rfl, -⟩ | ⟨rfl, -⟩ <;> omega
  cases i
  case invokevirtual idx =>
    simp only [Bool.and_eq_true, decide_eq_true_eq] at hc
    exact absurd (lt9 hc.2.1 (Or.inl hc.2.2.1)) hbig
  case invokestatic idx =>
    simp only [Bool.and_eq_true, Bool.or_eq_true, decide_eq_true_eq] at hc
    obtain ⟨rfl, hv, hc⟩ := hc
    rcases hc with ⟨hc9, -⟩ | ⟨hc9, hb9, hf1, hf2⟩
    · exact absurd (lt9 hv (by omega)) hbig
    · subst hc9
      obtain ⟨i9, h1, -⟩ := q_iv_spec hv
      simp only [q_ivB, Bool.and_eq_true, decide_eq_true_eq] at h1
      obtain ⟨ha9, h4⟩ := h1
      subst ha9
      rcases q_lib_inv h with ⟨hq, -⟩ | ⟨-, y1, y2, rfl, rfl⟩
      · omega
      · subst hst
        exact va_mmax (rest := List.map (qt ad) rest) hx hb (hml.trans hsz.symm) hown (hts _ (hgw _ (q_wat_in h4))) (hts _ (hgw _ (q_wat_in w3))) (hts _ (hgw _ (q_wat_in w4))) (hts _ (hgw _ (q_wat_in w5))) (by rw [hr1]; exact hf1) (by rw [hr2]; omega) (by rw [hr3]; exact hk) (by rw [hr4]; exact hn) hd k
  case invokespecial idx =>
    simp only [Bool.and_eq_true, Bool.or_eq_true, decide_eq_true_eq] at hc
    obtain ⟨rfl, hv, hc⟩ := hc
    rcases hc with ⟨hc9, -⟩ | ⟨hc9, hb9, hf1, hf2⟩
    · exact absurd (lt9 hv (by omega)) hbig
    · subst hc9
      obtain ⟨i9, h1, -⟩ := q_iv_spec hv
      simp only [q_ivB, Bool.and_eq_true, decide_eq_true_eq] at h1
      obtain ⟨ha9, h4⟩ := h1
      subst ha9
      rcases q_lib_inv h with ⟨-, rfl, o, rfl⟩ | ⟨hq, -⟩
      · subst hst
        refine W.objInit hx hb hown (hts _ (hgw _ (q_wat_in h4))) (hts _ (hgw _ (q_wat_in w1))) (hts _ (hgw _ (q_wat_in w2))) (a := ad o) (rest := List.map (qt ad) rest) rfl (hsz.trans hml.symm) rfl hd (by rw [hr1]; exact hf1) ?_ k
        exact Nat.le_trans (Nat.add_le_add_right (lv_room (st := List.map (qt ad) rest) (by omega)) 12) (by rw [hr2]; exact hf2)
      · omega
  all_goals exact absurd hi (by simp [q_kd])
end QI
def q_isn (i : Instr) : Bool := match i with
  | .new _ => true
  | _ => false
theorem q_exec0 {f j pc k n : Nat} {scr : qScr} {L : qL} {st : List Value} {M : qM} {x : qX} (hcode : q_code j pc = some x) (hkd : q_kd x.1 = 0) :
    q_exec (f + 1) scr j (pc, L, st, M, k, n) = (if 1000 ≤ x.2.2.1 ∧ x.2.2.1 < 1005 ∧ q_isn x.1 = true then (if k + 1 ≤ q_mc j ∧ n + 6 ≤ q_ms j ∧ st.length ≤ 4 then some (.inr (x.2.2.1 - 1000), M) else none) else match q_step scr j x (pc, L, st, M, k, n) with
      | none => none
      | some F' => q_exec f scr j F') := by
  rw [q_exec]
  simp only [hcode, hkd]
  obtain ⟨i, len, a, b, c9⟩ := x
  cases i <;> rfl
set_option maxHeartbeats 4000000 in
theorem q_all : ∀ f, qP f := by
  intro f
  induction f with
  | zero =>
    intro scr j pc k n L st M r M' hx
    exact absurd (show (none : Option (qR × qM)) = some (r, M') from hx) (fun q => by cases q)
  | succ f ih =>
    intro scr j pc k n L st M r M' hx p l e R s m args below meth c Ts CA D A C ad H locs ls Q hscr hP hD hS hl hk hn hR hX
    cases hcode : q_code j pc with
    | none =>
      rw [q_exec] at hx
      simp only [hcode] at hx
      cases hx
    | some x =>
      obtain ⟨hchk, hj⟩ := q_ok hcode
      have hA := C.2.2.2.2.2.2.1
      by_cases hkd : q_kd x.1 = 0
      · rw [q_exec0 hcode hkd] at hx
        by_cases hth : 1000 ≤ x.2.2.1 ∧ x.2.2.1 < 1005 ∧ q_isn x.1 = true
        · rw [if_pos hth] at hx
          obtain ⟨h1, h2⟩ := qif_some hx
          cases h2
          obtain ⟨t1, t2, t3⟩ := hth
          obtain ⟨i, len, a, b, c9⟩ := x
          simp only at t1 t2 t3
          unfold q_isn at t3
          split at t3
          · rename_i idx
            exact hX (a - 1000) pc idx _ (List.map (qt ad) st) ad H locs ls k n rfl hcode rfl (by show a = 1000 + (a - 1000); omega) (hl.2.1) (by rw [List.length_map]; exact h1.2.2) qAg.rf (fun _ => rfl) (Nat.le_refl _) hP hD hS h1.1 h1.2.1
          · cases t3
        · rw [if_neg hth] at hx
          split at hx
          · cases hx
          · rename_i F' hF'
            have hnw : ∀ idx, x.1 = .new idx → q_isnw (q_oc j) idx x.2.2.1 = true := by
              intro idx hidx
              have hchk2 := hchk
              obtain ⟨i, len, a, b, c9⟩ := x
              simp only at hidx hth ⊢
              subst hidx
              unfold q_chk at hchk2
              simp only [Bool.and_eq_true, Bool.or_eq_true, decide_eq_true_eq] at hchk2
              rcases hchk2.2.2 with h2 | h2
              · exact h2.2
              · exfalso
                obtain ⟨ik, si, ic9, w9, i1, i2, tx, -, hB⟩ := q_th_spec h2.2
                unfold q_thB at hB
                simp only [Bool.and_eq_true, decide_eq_true_eq] at hB
                have := hB.1
                exact hth ⟨h2.1, by omega, rfl⟩
            obtain ⟨pc', L', st', M1, k', n'⟩ := F'
            refine qs_step C hscr hchk hnw hF' hP hD hS hl hk hn (fun ad' H' locs' ls' g1 g2 g3 g4 g5 g6 g7 g8 g9 => ?_)
            refine ih scr j pc' k' n' L' st' M1 r M' hx p l e R s m args below meth c Ts CA D A C ad' H' locs' ls' Q (hscr.ag g1) g4 g5 g6 g7 g8 g9 ?_ ?_
            · intro v pc9 x9 ad9 H9 locs9 ls9 k9 n9 r1 r2 r3 r4 r5 r6 r7 r8 r9 r10 r11 r12
              exact hR v pc9 x9 ad9 H9 locs9 ls9 k9 n9 r1 r2 r3 r4 (g1.tr r5 g3) (fun q => (r6 q).trans (g2 q)) (Nat.le_trans g3 r7) r8 r9 r10 r11 r12
            · intro e9 pc9 idx9 x9 st9 ad9 H9 locs9 ls9 k9 n9 r1 r2 r3 r4 r41 r42 r5 r6 r7 r8 r9 r10 r11 r12
              exact hX e9 pc9 idx9 x9 st9 ad9 H9 locs9 ls9 k9 n9 r1 r2 r3 r4 r41 r42 (g1.tr r5 g3) (fun q => (r6 q).trans (g2 q)) (Nat.le_trans g3 r7) r8 r9 r10 r11 r12
      by_cases hkd1 : q_kd x.1 = 1
      · have hkd := hkd1
        rw [q_exec] at hx
        simp only [hcode, hkd1] at hx
        split at hx
        · cases hx
        · rename_i a as rest hcall
          obtain ⟨ha, hlen, hst, hrest⟩ := q_call_inv hcall
          split at hx
          · rename_i hbig
            split at hx
            · cases hx
            · rename_i r0 hlib
              rw [ha] at hlib
              refine qs_lib C hchk hkd hlib hlen hst hrest hl.2.1 hk hn ?_
              exact ih scr j (pc + 3) k n L (r0 ++ rest) M r M' hx p l e R s m args below meth c Ts CA D A C ad H locs ls Q hscr hP hD hS hl hk hn hR hX
          · rename_i hsmall
            split at hx
            · rename_i hg
              obtain ⟨q1, q2, q3, q4, q5⟩ := hg
              have ha9 : a < 900 := Nat.not_le.mp hsmall
              have hj9 : a < 110 := by
                obtain ⟨i, len, a0, b, c9⟩ := x
                simp only at ha
                subst ha
                have hchk2 := hchk
                unfold q_chk at hchk2
                simp only [Bool.and_eq_true, decide_eq_true_eq] at hchk2
                obtain ⟨-, hc⟩ := hchk2
                have lt9 : ∀ {oc idx cz : Nat}, q_isiv oc idx a cz = true → a < 110 := by
                  intro oc idx cz h1
                  obtain ⟨i9, h3, -⟩ := q_iv_spec h1
                  unfold q_ivB at h3
                  simp only at h3
                  split at h3
                  · simp only [Bool.and_eq_true, decide_eq_true_eq] at h3
                    exact h3.1.1.1
                  · simp only [Bool.and_eq_true, decide_eq_true_eq] at h3
                    exact h3.1.1
                  · simp only [Bool.and_eq_true, decide_eq_true_eq] at h3
                    exact h3.1
                  · simp only [Bool.and_eq_true, decide_eq_true_eq] at h3
                    exact h3.1.1
                  · simp only [Bool.and_eq_true, decide_eq_true_eq] at h3
                    exact h3.1
                  · simp only [Bool.and_eq_true, decide_eq_true_eq] at h3
                    omega
                  · simp only [Bool.and_eq_true, decide_eq_true_eq] at h3
                    omega
                  · cases h3
                cases i
                case invokevirtual idx =>
                  simp only [Bool.and_eq_true, decide_eq_true_eq] at hc
                  exact lt9 hc.2.1
                case invokestatic idx =>
                  simp only [Bool.and_eq_true, Bool.or_eq_true, decide_eq_true_eq] at hc
                  exact lt9 hc.2.1
                case invokespecial idx =>
                  simp only [Bool.and_eq_true, Bool.or_eq_true, decide_eq_true_eq] at hc
                  exact lt9 hc.2.1
                all_goals exact absurd hkd (by simp [q_kd])
              have hsub := qA_sub hD hA hS
              split at hx
              · cases hx
              · rename_i v M1 hcal
                have hM := q_met ih C.2.2.2.2.1 hj9 hcal q5 CA D ad H.size
                have hscp : qScr_ok (q_scp a scr) A ad s := by
                  unfold q_scp
                  split
                  · exact hscr
                  · exact trivial
                obtain ⟨i, len, a0, b, c9⟩ := x
                simp only at ha hlen q1
                subst ha
                have hr := q_run (e := e) (below := below) C (st0 := List.map (qt ad) st) (rest := List.map (qt ad) rest) hchk hkd ha9 hscp hM hP hD hS hl.2.1 hlen (by rw [hst]; simp) (by rw [qcs_map]; exact hrest) q1 q2 q3
                refine q_callsim hr hS hsub hsub ?_ ?_
                · intro v' ad' H1 locs1 hv hE hS1
                  cases hv
                  obtain ⟨g1, g2, g3, g4, g5⟩ := hE
                  have hqt : List.map (qt ad') rest = List.map (qt ad) rest ∧ qLs ad' ls (q_mL j) L := by
                    cases hal : q_al a with
                    | true =>
                      obtain ⟨-, hsl, hss⟩ := q4 hal
                      exact ⟨qtS_ag g1 hss, hl.ag g1 hsl⟩
                    | false => rw [g2 hal]; exact ⟨rfl, hl⟩
                  have hal9 : q_al j = false → ad' = ad := by
                    intro hq
                    cases hal : q_al a with
                    | true => rw [(q4 hal).1] at hq; cases hq
                    | false => exact g2 hal
                  have k9 := ih scr j (pc + 3) (k + q_mc a) (n + q_ms a) L (v.toList ++ rest) M1 r M' hx p l e R s m args below meth c Ts CA D A C ad' H1 locs1 ls Q (hscr.ag g1) g4 (g5.weaken (fun _ q _ hq => hsub _ hq)) hS1 hqt.2 q2 q3 ?_ ?_
                  · rw [List.map_append, hqt.1] at k9
                    cases v <;> exact k9
                  · intro v pc9 x9 ad9 H9 locs9 ls9 k9 n9 r1 r2 r3 r4 r5 r6 r7 r8 r9 r10 r11 r12
                    exact hR v pc9 x9 ad9 H9 locs9 ls9 k9 n9 r1 r2 r3 r4 (g1.tr r5 g3) (fun q => (r6 q).trans (hal9 q)) (Nat.le_trans g3 r7) r8 r9 r10 r11 r12
                  · intro e9 pc9 idx9 x9 st9 ad9 H9 locs9 ls9 k9 n9 r1 r2 r3 r4 r41 r42 r5 r6 r7 r8 r9 r10 r11 r12
                    exact hX e9 pc9 idx9 x9 st9 ad9 H9 locs9 ls9 k9 n9 r1 r2 r3 r4 r41 r42 (g1.tr r5 g3) (fun q => (r6 q).trans (hal9 q)) (Nat.le_trans g3 r7) r8 r9 r10 r11 r12
                · intro e9 ad' H1 locs1 q9 ce hv
                  cases hv
              · rename_i e0 M1 hcal
                have hM := q_met ih C.2.2.2.2.1 hj9 hcal q5 CA D ad H.size
                have hscp : qScr_ok (q_scp a scr) A ad s := by
                  unfold q_scp
                  split
                  · exact hscr
                  · exact trivial
                obtain ⟨i, len, a0, b, c9⟩ := x
                simp only at ha hlen q1
                subst ha
                have hr := q_run (e := e) (below := below) C (st0 := List.map (qt ad) st) (rest := List.map (qt ad) rest) hchk hkd ha9 hscp hM hP hD hS hl.2.1 hlen (by rw [hst]; simp) (by rw [qcs_map]; exact hrest) q1 q2 q3
                refine q_callsim hr hS hsub hsub ?_ ?_
                · intro v' ad' H1 locs1 hv
                  cases hv
                · intro e9 ad' H1 locs1 q9 ce hv hE hS1 hce hcv hcl
                  cases hv
                  obtain ⟨g1, g2, g3, g4, g5⟩ := hE
                  split at hx
                  · cases hx
                  · rename_i h9 p9 hhnd
                    split at hx
                    · rename_i hp9
                      have hqt : qLs ad' ls (q_mL j) L := by
                        cases hal : q_al a with
                        | true =>
                          obtain ⟨-, hsl, hss⟩ := q4 hal
                          exact hl.ag g1 hsl
                        | false => rw [g2 hal]; exact hl
                      have hal9 : q_al j = false → ad' = ad := by
                        intro hq
                        cases hal : q_al a with
                        | true => rw [(q4 hal).1] at hq; cases hq
                        | false => exact g2 hal
                      refine q_catch C hhnd hqt hp9 hce hcv hcl (fun ls' hl' => ?_)
                      refine ih scr j h9 (k + q_mc a) (n + q_ms a) (qset1 L p9 none) [] M1 r M' hx p l e R s m args below meth c Ts CA D A C ad' H1 locs1 ls' Q (hscr.ag g1) g4 (g5.weaken (fun _ q _ hq => hsub _ hq)) hS1 hl' q2 q3 ?_ ?_
                      · intro v pc9 x9 ad9 H9 locs9 ls9 k9 n9 r1 r2 r3 r4 r5 r6 r7 r8 r9 r10 r11 r12
                        exact hR v pc9 x9 ad9 H9 locs9 ls9 k9 n9 r1 r2 r3 r4 (g1.tr r5 g3) (fun q => (r6 q).trans (hal9 q)) (Nat.le_trans g3 r7) r8 r9 r10 r11 r12
                      · intro e9 pc9 idx9 x9 st9 ad9 H9 locs9 ls9 k9 n9 r1 r2 r3 r4 r41 r42 r5 r6 r7 r8 r9 r10 r11 r12
                        exact hX e9 pc9 idx9 x9 st9 ad9 H9 locs9 ls9 k9 n9 r1 r2 r3 r4 r41 r42 (g1.tr r5 g3) (fun q => (r6 q).trans (hal9 q)) (Nat.le_trans g3 r7) r8 r9 r10 r11 r12
                    · cases hx
            · cases hx
      · have hkd2 : q_kd x.1 = 2 := by
          have : q_kd x.1 = 0 ∨ q_kd x.1 = 1 ∨ q_kd x.1 = 2 := by
            unfold q_kd
            split <;> simp
          omega
        rw [q_exec] at hx
        simp only [hcode, hkd2] at hx
        split at hx
        · cases hx
        · rename_i v hret
          cases hx
          have hkd := hkd2
          have hst : st = v.toList := by
            obtain ⟨i, len, a, b, c9⟩ := x
            simp only at hret hkd
            unfold q_ret at hret
            split at hret
            · split at hret
              · cases hret; rfl
              · cases hret
            · split at hret
              · split at hret
                · cases hret; rfl
                · obtain ⟨-, rfl⟩ := qif_some hret; rfl
                · obtain ⟨-, rfl⟩ := qif_some hret; rfl
                · cases hret
              · cases hret
            · split at hret
              · cases hret; rfl
              · cases hret
            · split at hret
              · cases hret; rfl
              · cases hret
            · split at hret
              · cases hret; rfl
              · cases hret
            · cases hret
          subst hst
          have := hR v pc x ad H locs ls k n rfl hcode hkd hret qAg.rf (fun _ => rfl) (Nat.le_refl _) hP hD hS hk hn
          cases v <;> exact this
