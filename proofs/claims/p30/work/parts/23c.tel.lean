/-! tells: the tiles of the script -/
theorem qasti_l {M : qM} {o n : Nat} {f : Nat → Int32} {i x : Int32} (k : Nat) (hi : i = nI k) (h : M[o]? = some (.inl (0, n, .inl f))) (hk : k < n) (hn : n < 2147483648) : qasti M o 0 i x = some (M.set o (.inl (0, n, .inl (upd f k x)))) := by
  subst hi
  exact qasti_z h hk hn
theorem qald_l {Z : qScr} {M : qM} {o n : Nat} {f : Nat → Int32} {i : Int32} (k : Nat) (hi : i = nI k) (h : M[o]? = some (.inl (0, n, .inl f))) (hk : k < n) (hn : n < 2147483648) : qald Z M o 0 i = some (.int (f k)) := by
  subst hi
  exact qald_z h hk hn
def EdgeAt (M : qM) (T : TS) (n : Nat) : Prop := ∃ fs : List Value, M[101]? = some (.inr (11, fs)) ∧ fs.length = 8 ∧ ∀ t, t < n → ∃ (a : Nat) (f : Nat → Int32), fs[t]? = some (.ref a) ∧ 103 ≤ a ∧ a < M.length ∧ M[a]? = some (.inl (0, 4, .inl f)) ∧ ∀ d, d < 4 → f d = nI (T.c t d)
def MostAt (M : qM) (wo : Nat → Option Nat) (n : Nat) : Prop := ∃ f, M[102]? = some (.inl (0, 8, .inl f)) ∧ ∀ t, t < n → f t = nbI (wo t)
def e4 (a b c d : Nat) (k : Nat) : Int32 := if k = 0 then nI a else if k = 1 then nI b else if k = 2 then nI c else if k = 3 then nI d else 0
theorem e4_col {a b c d k : Nat} (hk : k < 4) : e4 a b c d k = nI (col4 a b c d k) := by
  unfold e4 col4
  split
  · rfl
  · split
    · rfl
    · split
      · rfl
      · rw [if_pos (by omega)]
theorem e4_upd {a b c d : Nat} : upd (upd (upd (upd (fun _ => 0) 0 (nI a)) 1 (nI b)) 2 (nI c)) 3 (nI d) = e4 a b c d := by
  funext k
  unfold upd e4
  by_cases h3 : k = 3
  · subst h3; rfl
  · rw [if_neg h3]
    by_cases h2 : k = 2
    · subst h2; rfl
    · rw [if_neg h2]
      by_cases h1 : k = 1
      · subst h1; rfl
      · rw [if_neg h1]
        by_cases h0 : k = 0
        · subst h0; rfl
        · rw [if_neg h0, if_neg h0, if_neg h1, if_neg h2, if_neg h3]
theorem tells_lit {Z : qScr} {k n a c t : Nat} {v : Int32} {l4 l5 l6 l9 l10 : Option Value} {M : qM} {Q : qR → qM → Prop} (hk : k ≤ 100) (hn : n ≤ 1000) (h0 : 0 < c) (h1 : c < 1000) (ha : M[a]? = some (.inl (0, 4, .inl (fun _ => 0)))) :
    gz Z 103 75 [some (.ref 0), some (.ref qSCR), some (.ref 101), some (.ref 102), l4, l5, l6, some (.int v), some (.int (nI c)), l9, l10] [.ref a, .int (nI t), .ref 101] M k n Q ↔ gz Z 103 123 [some (.ref 0), some (.ref qSCR), some (.ref 101), some (.ref 102), l4, l5, l6, some (.int v), some (.int (nI c)), l9, l10] [.ref a, .int (nI t), .ref 101] (M.set a (.inl (0, 4, .inl (e4 (lowV v c) (lowV (v >>> (3 &&& 31)) c) (lowV (v >>> (6 &&& 31)) c) (lowV (v >>> (9 &&& 31)) c))))) k n Q := by
  simp only [z_103_75, z_103_76, z_103_77, z_103_79, z_103_81, z_103_84, z_103_85, z_103_86, z_103_87, z_103_89, z_103_90, z_103_91, z_103_93, z_103_96, z_103_97, z_103_98, z_103_99, z_103_101, z_103_103, z_103_104, z_103_106, z_103_109, z_103_110, z_103_111, z_103_112, z_103_114, z_103_116, z_103_117, z_103_119, z_103_122, qOb_some, krz_v, krz_n, qinv_i, qinv_r, qinv_0, qinv_l, Nat.reduceAdd, List.getElem?_cons_zero, List.getElem?_cons_succ, List.set_cons_zero, List.set_cons_succ, List.length_cons, List.length_nil, not_true_eq_false, not_false_eq_true, false_implies, true_implies, and_true, true_and, and_false, false_and, if_true, if_false, forall_const, or_true, true_or, false_or, or_false, w_low h0 (show c < 1000000 by omega), hk, hn]
  rw [qOb_eq (qasti_l (i := 0) 0 rfl ha (by decide) (by decide)), qOb_eq (qasti_l (i := 1) 1 rfl (get_set_eq ha) (by decide) (by decide)), qOb_eq (qasti_l (i := 2) 2 rfl (get_set_eq (get_set_eq ha)) (by decide) (by decide)), qOb_eq (qasti_l (i := 3) 3 rfl (get_set_eq (get_set_eq (get_set_eq ha))) (by decide) (by decide))]
  rw [List.set_set, List.set_set, List.set_set, e4_upd]
theorem z1 (t : Nat) : (1 : Int32) + nI t = nI (1 + t) := nI_add 1 t
/-- what holds ahead of each turn -/
def TelAt (M : qM) (T : TS) (wo : Nat → Option Nat) (t : Nat) : Prop := T.n = t ∧ InvC M T 0 3 3 (fun _ => none) (fun _ => 0) wo false false (fun _ => 0) 0 0 0 (fun _ => 0) (fun _ => 0) (fun _ => 0) (fun _ _ => 0) ∧ SOk T 0 3 3 (fun _ => none) (fun _ => 0) wo false false (fun _ => 0) 0 0 0 (fun _ => 0) (fun _ => 0) (fun _ => 0) (fun _ _ => 0) ∧ Lsc M ∧ M.length = 103 + t ∧ EdgeAt M T t ∧ MostAt M wo t
/-- one turn -/
theorem tells_turn {L : Nat} {xs : Nat → Int32} {k n t tiles cols : Nat} {l7 l8 l9 l10 : Option Value} {T : TS} {wo : Nat → Option Nat} {M : qM} {Q : qR → qM → Prop} (hL : L ≤ 260) (ht : t < tiles) (h8 : tiles ≤ 8) (hc2 : 2 ≤ cols) (hc3 : cols ≤ 3) (hk : k ≤ 3 * t) (hn : n ≤ 16 * t) (h9 : okL l9) (h10 : okL l10) (hA : TelAt M T wo t)
    (ih : ∀ (k n : Nat) (l7 l8 l9 l10 : Option Value) (T : TS) (wo : Nat → Option Nat) (M : qM), k ≤ 3 * (t + 1) → n ≤ 16 * (t + 1) → okL l9 → okL l10 → TelAt M T wo (t + 1) → gz (some (L, xs)) 103 32 [some (.ref 0), some (.ref qSCR), some (.ref 101), some (.ref 102), some (.int (nI tiles)), some (.int (nI cols)), some (.int (nI (t + 1))), l7, l8, l9, l10] [] M k n Q) :
    gz (some (L, xs)) 103 32 [some (.ref 0), some (.ref qSCR), some (.ref 101), some (.ref 102), some (.int (nI tiles)), some (.int (nI cols)), some (.int (nI t)), l7, l8, l9, l10] [] M k n Q := by
  obtain ⟨hT, hI, hS, hLs, hlen, ⟨fs, hE1, hE2, hE3⟩, ⟨fm, hM1, hM2⟩⟩ := hA
  have hsc := hLs.scr
  have e1 : (nI tiles ≤ nI t) = False := eq_false (nI_ge ht (by omega))
  rw [z_103_32]
  have k1 : k ≤ 100 := by omega
  have n1 : n ≤ 1000 := by omega
  have e4' : Int32.toNatClampNeg 4 = 4 := by decide
  have at67 : ∀ (c : Nat) (v : Int32), 0 < c → c ≤ 4 → ∀ l8' : Option Value, gz (some (L, xs)) 103 67 [some (.ref 0), some (.ref qSCR), some (.ref 101), some (.ref 102), some (.int (nI tiles)), some (.int (nI cols)), some (.int (nI t)), some (.int v), l8', l9, l10] [.int (nI c)] M k n Q := by
    intro c v c0 c4 l8'
    simp only [z_103_67, z_103_69, z_103_70, z_103_72, z_103_73, qOb_some, krz_v, krz_n, qinv_i, qinv_r, qinv_0, qinv_l, Nat.reduceAdd, List.getElem?_cons_zero, List.getElem?_cons_succ, List.set_cons_zero, List.set_cons_succ, List.length_cons, List.length_nil, not_true_eq_false, not_false_eq_true, false_implies, true_implies, and_true, true_and, and_false, false_and, if_true, if_false, forall_const, or_true, true_or, false_or, or_false, e4']
    refine ⟨⟨by decide, by decide, by omega, by omega⟩, ?_⟩
    rw [qOb_eq (qmk_of hLs.lt (Lsc.all hI hLs) (qL_r (by omega) (qL_s (qL_r (by omega) (qL_r (by omega) (qL_i (qL_i (qL_i (qL_i (qL_i (qL_o h9 (qL_o h10 qL_n))))))))))) (qS_i (qS_r (by omega) qS_n)) rfl)]
    rw [tells_lit (by omega) (by omega) c0 (by omega) app_new, app_set]
    obtain ⟨a0, ha0⟩ : ∃ a, a = lowV v c := ⟨_, rfl⟩
    obtain ⟨a1, ha1⟩ : ∃ a, a = lowV (v >>> (3 &&& 31)) c := ⟨_, rfl⟩
    obtain ⟨a2, ha2⟩ : ∃ a, a = lowV (v >>> (6 &&& 31)) c := ⟨_, rfl⟩
    obtain ⟨a3, ha3⟩ : ∃ a, a = lowV (v >>> (9 &&& 31)) c := ⟨_, rfl⟩
    have b0 : a0 < 4 := by rw [ha0]; exact Nat.lt_of_lt_of_le (lowV_lt c0) c4
    have b1 : a1 < 4 := by rw [ha1]; exact Nat.lt_of_lt_of_le (lowV_lt c0) c4
    have b2 : a2 < 4 := by rw [ha2]; exact Nat.lt_of_lt_of_le (lowV_lt c0) c4
    have b3 : a3 < 4 := by rw [ha3]; exact Nat.lt_of_lt_of_le (lowV_lt c0) c4
    rw [← ha0, ← ha1, ← ha2, ← ha3]
    have x101 : (M ++ [.inl (0, 4, .inl (e4 a0 a1 a2 a3))])[101]? = some (.inr (11, fs)) := (app_old (by omega)).trans hE1
    rw [z_103_123, qOb_eq (qaast_z x101 (show t < fs.length by omega) (by omega) app_new)]
    obtain ⟨M3, hM3⟩ : ∃ M3 : qM, M3 = (M ++ [.inl (0, 4, .inl (e4 a0 a1 a2 a3))] : qM).set 101 (.inr (11, fs.set t (.ref M.length))) := ⟨_, rfl⟩
    rw [← hM3]
    have len3 : M3.length = 104 + t := by rw [hM3, List.length_set, app_len]; omega
    have I3 : InvC M3 T 0 3 3 (fun _ => none) (fun _ => 0) wo false false (fun _ => 0) 0 0 0 (fun _ => 0) (fun _ => 0) (fun _ => 0) (fun _ _ => 0) := by
      rw [hM3]
      exact (hI.app (by omega)).set (by decide)
    have g101 : M3[101]? = some (.inr (11, fs.set t (.ref M.length))) := by rw [hM3]; exact get_set_eq x101
    have g102 : M3[102]? = some (.inl (0, 8, .inl fm)) := by rw [hM3, get_set_ne (by decide), app_old (by omega)]; exact hM1
    have gnew : M3[M.length]? = some (.inl (0, 4, .inl (e4 a0 a1 a2 a3))) := by rw [hM3, get_set_ne (by omega)]; exact app_new
    have gold : ∀ b, 103 ≤ b → b < M.length → M3[b]? = M[b]? := fun b q1 q2 => by rw [hM3, get_set_ne (by omega), app_old q2]
    have L3 : Lsc M3 := by
      rw [hM3]
      refine (hLs.app (by omega) rfl).set ?_
      rw [qscE]
      refine List.all_eq_true.mpr (fun x hx => ?_)
      rcases List.mem_or_eq_of_mem_set hx with hx | hx
      · have := hLs.2.2 101 (by decide) _ hE1
        rw [qscE] at this
        exact qscV_mono (by rw [app_len]; omega) (List.all_eq_true.mp this x hx)
      · rw [hx]
        exact qscV_r (by rw [app_len]; omega)
    have at153 : ∀ mo : Option Nat, (∀ m, mo = some m → m ≤ 36) → gz (some (L, xs)) 103 153 [some (.ref 0), some (.ref qSCR), some (.ref 101), some (.ref 102), some (.int (nI tiles)), some (.int (nI cols)), some (.int (nI t)), some (.int v), some (.int (nI c)), l9, l10] [.int (nbI mo), .int (nI t), .ref 102] M3 (k + 1) (n + 4) Q := by
      intro mo hmo
      rw [z_103_153, qOb_eq (qasti_z g102 (show t < 8 by omega) (by decide))]
      obtain ⟨M4, hM4⟩ : ∃ M4 : qM, M4 = M3.set 102 (.inl (0, 8, .inl (upd fm t (nbI mo)))) := ⟨_, rfl⟩
      rw [← hM4]
      have len4 : M4.length = 104 + t := by rw [hM4, List.length_set]; exact len3
      have I4 : InvC M4 T 0 3 3 (fun _ => none) (fun _ => 0) wo false false (fun _ => 0) 0 0 0 (fun _ => 0) (fun _ => 0) (fun _ => 0) (fun _ _ => 0) := by
        rw [hM4]
        exact I3.set (by decide)
      have L4 : Lsc M4 := by rw [hM4]; exact L3.set rfl
      have k101 : M4[101]? = some (.inr (11, fs.set t (.ref M.length))) := by rw [hM4, get_set_ne (by decide)]; exact g101
      have k102 : M4[102]? = some (.inl (0, 8, .inl (upd fm t (nbI mo)))) := by rw [hM4]; exact get_set_eq g102
      have knew : M4[M.length]? = some (.inl (0, 4, .inl (e4 a0 a1 a2 a3))) := by rw [hM4, get_set_ne (by omega)]; exact gnew
      have kold : ∀ b, 103 ≤ b → b < M.length → M4[b]? = M[b]? := fun b q1 q2 => by rw [hM4, get_set_ne (by omega)]; exact gold b q1 q2
      have ef : (fs.set t (.ref M.length))[t]? = some (.ref M.length) := by rw [List.getElem?_set, if_pos rfl, if_pos (by omega)]
      have ld : qaald M4 101 (nI t) = some (.ref M.length) := qaald_z k101 ef (by rw [List.length_set]; omega)
      have l0 : qald (some (L, xs)) M4 M.length 0 0 = some (.int (nI a0)) := qald_l 0 rfl knew (by decide) (by decide)
      have l1 : qald (some (L, xs)) M4 M.length 0 1 = some (.int (nI a1)) := qald_l 1 rfl knew (by decide) (by decide)
      have l2 : qald (some (L, xs)) M4 M.length 0 2 = some (.int (nI a2)) := qald_l 2 rfl knew (by decide) (by decide)
      have l3 : qald (some (L, xs)) M4 M.length 0 3 = some (.int (nI a3)) := qald_l 3 rfl knew (by decide) (by decide)
      have wt1 : (1 : Int32) + nI (lowV (v >>> (22 &&& 31)) 9) = nI (1 + lowV (v >>> (22 &&& 31)) 9) := z1 _
      obtain ⟨wt, hwt⟩ : ∃ wt, wt = 1 + lowV (v >>> (22 &&& 31)) 9 := ⟨_, rfl⟩
      have wt9 : 1 ≤ wt ∧ wt ≤ 9 := by
        have := lowV_lt (v := v >>> (22 &&& 31)) (m := 9) (by decide)
        omega
      have colI : ∀ a, a < 4 → colP (nI a) := fun a q => ⟨(nI_leI (a := 0) (by decide) (by omega)).mpr (Nat.zero_le _), (nI_leI (b := 3) (by omega) (by decide)).mpr (by omega)⟩
      have hok : okT (nI a0) (nI a1) (nI a2) (nI a3) (nI wt) := ⟨colI _ b0, colI _ b1, colI _ b2, colI _ b3, (nI_leI (a := 1) (by decide) (by omega)).mpr wt9.1, (nI_leI (b := 9) (by omega) (by decide)).mpr wt9.2⟩
      have k2 : k + 1 ≤ 100 := by omega
      have n2 : n + 4 ≤ 1000 := by omega
      have k2' : k + 1 + 1 ≤ 100 := by omega
      have n2' : n + 4 + 6 ≤ 1000 := by omega
      simp only [z_103_154, z_103_155, z_103_156, z_103_158, z_103_159, z_103_160, z_103_161, z_103_162, z_103_164, z_103_165, z_103_166, z_103_167, z_103_168, z_103_170, z_103_171, z_103_172, z_103_173, z_103_174, z_103_176, z_103_177, z_103_178, z_103_179, z_103_180, z_103_182, z_103_184, z_103_185, z_103_187, z_103_190, z_103_191, qOb_some, krz_v, krz_n, qinv_i, qinv_r, qinv_0, qinv_l, Nat.reduceAdd, List.getElem?_cons_zero, List.getElem?_cons_succ, List.set_cons_zero, List.set_cons_succ, List.length_cons, List.length_nil, not_true_eq_false, not_false_eq_true, false_implies, true_implies, and_true, true_and, and_false, false_and, if_true, if_false, forall_const, or_true, true_or, false_or, or_false, qOb_eq ld, qOb_eq l0, qOb_eq l1, qOb_eq l2, qOb_eq l3, w_low9, z1, ← hwt, k2, n2, k2', n2']
      refine ⟨(HObj.cls I4.1).mpr trivial, c_addTile I4 hS (fun q => absurd hok q) (fun _ q => absurd q (by omega)) (fun _ _ M5 kc5 I5 => ?_)⟩
      rw [hT]
      have c5 := hS.add hok (by omega)
      rw [cn_nI (show a0 < 2 ^ 31 by omega), cn_nI (show a1 < 2 ^ 31 by omega), cn_nI (show a2 < 2 ^ 31 by omega), cn_nI (show a3 < 2 ^ 31 by omega), cn_nI (show wt < 2 ^ 31 by omega)] at I5 c5
      have kk102 : M5[102]? = some (.inl (0, 8, .inl (upd fm t (nbI mo)))) := (kc5 102 (by decide)).trans k102
      have lm : qald (some (L, xs)) M5 102 0 (nI t) = some (.int (nbI mo)) := by rw [qald_z kk102 (show t < 8 by omega) (by decide), upd_s]
      have L5 := kc5.lsc L4
      have tn : (addT T a0 a1 a2 a3 wt).n = t + 1 := by
        show T.n + 1 = t + 1
        rw [hT]
      have tP : tileP (addT T a0 a1 a2 a3 wt) (nI t) := ⟨(nI_leI (a := 0) (by decide) (by omega)).mpr (Nat.zero_le _), by rw [tn]; exact (nI_ltI (by omega) (by omega)).mpr (Nat.lt_succ_self _)⟩
      have mP : mostP (nbI mo) := by
        cases mo with
        | none => exact ⟨by decide, by decide⟩
        | some m =>
          have := hmo m rfl
          exact ⟨Int32.le_trans (b := 0) (by decide) ((nI_leI (a := 0) (by decide) (by omega)).mpr (Nat.zero_le _)), (nI_leI (b := 36) (by omega) (by decide)).mpr this⟩
      have oE : oI (nbI mo) = mo := by
        cases mo with
        | none => rfl
        | some m =>
          have := hmo m rfl
          have hne : ¬ nI m = -1 := fun q => absurd ((nbI_m1 (x := some m) (fun t q2 => by cases q2; omega)).mp q) (by simp)
          show (if nI m = -1 then none else some (cn (nI m))) = some m
          rw [if_neg hne, cn_nI (by omega)]
      have k3' : k + 1 + 1 + 1 ≤ 100 := by omega
      have n3' : n + 4 + 6 + 6 ≤ 1000 := by omega
      simp only [z_103_0, z_103_1, z_103_2, z_103_3, z_103_6, z_103_8, z_103_11, z_103_12, z_103_14, z_103_15, z_103_16, z_103_17, z_103_20, z_103_21, z_103_22, z_103_23, z_103_26, z_103_27, z_103_29, z_103_30, z_103_34, z_103_36, z_103_39, z_103_40, z_103_41, z_103_43, z_103_44, z_103_47, z_103_49, z_103_51, z_103_53, z_103_54, z_103_55, z_103_58, z_103_61, z_103_62, z_103_65, z_103_67, z_103_69, z_103_70, z_103_72, z_103_73, z_103_75, z_103_76, z_103_77, z_103_79, z_103_81, z_103_84, z_103_85, z_103_86, z_103_87, z_103_89, z_103_90, z_103_91, z_103_93, z_103_96, z_103_97, z_103_98, z_103_99, z_103_101, z_103_103, z_103_104, z_103_106, z_103_109, z_103_110, z_103_111, z_103_112, z_103_114, z_103_116, z_103_117, z_103_119, z_103_122, z_103_123, z_103_124, z_103_125, z_103_127, z_103_129, z_103_131, z_103_132, z_103_133, z_103_136, z_103_139, z_103_141, z_103_143, z_103_144, z_103_146, z_103_149, z_103_152, z_103_153, z_103_154, z_103_155, z_103_156, z_103_158, z_103_159, z_103_160, z_103_161, z_103_162, z_103_164, z_103_165, z_103_166, z_103_167, z_103_168, z_103_170, z_103_171, z_103_172, z_103_173, z_103_174, z_103_176, z_103_177, z_103_178, z_103_179, z_103_180, z_103_182, z_103_184, z_103_185, z_103_187, z_103_190, z_103_191, z_103_194, z_103_196, z_103_197, z_103_199, z_103_200, z_103_202, z_103_203, z_103_206, z_103_208, z_103_211, z_103_214, z_103_216, qOb_some, krz_v, krz_n, qinv_i, qinv_r, qinv_0, qinv_l, Nat.reduceAdd, List.getElem?_cons_zero, List.getElem?_cons_succ, List.set_cons_zero, List.set_cons_succ, List.length_cons, List.length_nil, not_true_eq_false, not_false_eq_true, false_implies, true_implies, and_true, true_and, and_false, false_and, if_true, if_false, forall_const, or_true, true_or, false_or, or_false, qOb_eq lm, k2', n2', k3', n3']
      refine ⟨(HObj.cls I5.1).mpr trivial, c_setMost I5 c5 (fun q => absurd tP q) (fun _ q => absurd mP q) (fun _ _ M6 kc6 I6 => ?_)⟩
      have c6 := c5.most (t := nI t) mP
      rw [oE, cn_nI (show t < 2 ^ 31 by omega)] at I6 c6
      have nn : nI t + 1 = nI (t + 1) := nI_add t 1
      simp only [z_103_0, z_103_1, z_103_2, z_103_3, z_103_6, z_103_8, z_103_11, z_103_12, z_103_14, z_103_15, z_103_16, z_103_17, z_103_20, z_103_21, z_103_22, z_103_23, z_103_26, z_103_27, z_103_29, z_103_30, z_103_34, z_103_36, z_103_39, z_103_40, z_103_41, z_103_43, z_103_44, z_103_47, z_103_49, z_103_51, z_103_53, z_103_54, z_103_55, z_103_58, z_103_61, z_103_62, z_103_65, z_103_67, z_103_69, z_103_70, z_103_72, z_103_73, z_103_75, z_103_76, z_103_77, z_103_79, z_103_81, z_103_84, z_103_85, z_103_86, z_103_87, z_103_89, z_103_90, z_103_91, z_103_93, z_103_96, z_103_97, z_103_98, z_103_99, z_103_101, z_103_103, z_103_104, z_103_106, z_103_109, z_103_110, z_103_111, z_103_112, z_103_114, z_103_116, z_103_117, z_103_119, z_103_122, z_103_123, z_103_124, z_103_125, z_103_127, z_103_129, z_103_131, z_103_132, z_103_133, z_103_136, z_103_139, z_103_141, z_103_143, z_103_144, z_103_146, z_103_149, z_103_152, z_103_153, z_103_154, z_103_155, z_103_156, z_103_158, z_103_159, z_103_160, z_103_161, z_103_162, z_103_164, z_103_165, z_103_166, z_103_167, z_103_168, z_103_170, z_103_171, z_103_172, z_103_173, z_103_174, z_103_176, z_103_177, z_103_178, z_103_179, z_103_180, z_103_182, z_103_184, z_103_185, z_103_187, z_103_190, z_103_191, z_103_194, z_103_196, z_103_197, z_103_199, z_103_200, z_103_202, z_103_203, z_103_206, z_103_208, z_103_211, z_103_214, z_103_216, qOb_some, krz_v, krz_n, qinv_i, qinv_r, qinv_0, qinv_l, Nat.reduceAdd, List.getElem?_cons_zero, List.getElem?_cons_succ, List.set_cons_zero, List.set_cons_succ, List.length_cons, List.length_nil, not_true_eq_false, not_false_eq_true, false_implies, true_implies, and_true, true_and, and_false, false_and, if_true, if_false, forall_const, or_true, true_or, false_or, or_false, nn]
      have L6 := kc6.lsc L5
      have len6 : M6.length = 103 + (t + 1) := by rw [kc6.len L5.1, kc5.len L4.1, len4]; omega
      refine ih _ _ _ _ _ _ _ _ _ (by omega) (by omega) okL_i okL_i ⟨tn, I6, c6, L6, len6, ⟨fs.set t (.ref M.length), ((kc6 101 (by decide)).trans ((kc5 101 (by decide)).trans k101)), (by rw [List.length_set]; exact hE2), fun s hs => ?_⟩, ⟨upd fm t (nbI mo), (kc6 102 (by decide)).trans kk102, fun s hs => ?_⟩⟩
      · by_cases es : s = t
        · subst es
          refine ⟨M.length, e4 a0 a1 a2 a3, ef, by omega, by omega, (kc6 _ (by omega)).trans ((kc5 _ (by omega)).trans knew), fun d hd => ?_⟩
          rw [e4_col hd]
          show nI (col4 a0 a1 a2 a3 d) = nI (if s = T.n then col4 a0 a1 a2 a3 d else T.c s d)
          rw [hT, if_pos rfl]
        · obtain ⟨a, f, q1, q2, q3, q4, q5⟩ := hE3 s (by omega)
          refine ⟨a, f, by rw [List.getElem?_set_ne (by omega)]; exact q1, q2, by omega, (kc6 _ (by omega)).trans ((kc5 _ (by omega)).trans ((kold a q2 q3).trans q4)), fun d hd => ?_⟩
          rw [q5 d hd]
          show nI (T.c s d) = nI (if s = T.n then col4 a0 a1 a2 a3 d else T.c s d)
          rw [hT, if_neg es]
      · by_cases es : s = t
        · subst es
          rw [upd_s, fuO_s]
        · rw [upd_n es, fuO_n es]
          exact hM2 s (by omega)
    have k4 : k + 1 ≤ 100 := by omega
    have n4 : n + 4 ≤ 1000 := by omega
    by_cases hz : lowV (v >>> (16 &&& 31)) 4 = 0
    · have h9' := at153 (some (lowV (v >>> (19 &&& 31)) 9)) (fun m q => by cases q; have := lowV_lt (v := v >>> (19 &&& 31)) (m := 9) (by decide); omega)
      have e0 : nI (lowV (v >>> (16 &&& 31)) 4) = 0 := by rw [hz]; rfl
      simp only [z_103_0, z_103_1, z_103_2, z_103_3, z_103_6, z_103_8, z_103_11, z_103_12, z_103_14, z_103_15, z_103_16, z_103_17, z_103_20, z_103_21, z_103_22, z_103_23, z_103_26, z_103_27, z_103_29, z_103_30, z_103_34, z_103_36, z_103_39, z_103_40, z_103_41, z_103_43, z_103_44, z_103_47, z_103_49, z_103_51, z_103_53, z_103_54, z_103_55, z_103_58, z_103_61, z_103_62, z_103_65, z_103_67, z_103_69, z_103_70, z_103_72, z_103_73, z_103_75, z_103_76, z_103_77, z_103_79, z_103_81, z_103_84, z_103_85, z_103_86, z_103_87, z_103_89, z_103_90, z_103_91, z_103_93, z_103_96, z_103_97, z_103_98, z_103_99, z_103_101, z_103_103, z_103_104, z_103_106, z_103_109, z_103_110, z_103_111, z_103_112, z_103_114, z_103_116, z_103_117, z_103_119, z_103_122, z_103_123, z_103_124, z_103_125, z_103_127, z_103_129, z_103_131, z_103_132, z_103_133, z_103_136, z_103_139, z_103_141, z_103_143, z_103_144, z_103_146, z_103_149, z_103_152, z_103_154, z_103_155, z_103_156, z_103_158, z_103_159, z_103_160, z_103_161, z_103_162, z_103_164, z_103_165, z_103_166, z_103_167, z_103_168, z_103_170, z_103_171, z_103_172, z_103_173, z_103_174, z_103_176, z_103_177, z_103_178, z_103_179, z_103_180, z_103_182, z_103_184, z_103_185, z_103_187, z_103_190, z_103_191, z_103_194, z_103_196, z_103_197, z_103_199, z_103_200, z_103_202, z_103_203, z_103_206, z_103_208, z_103_211, z_103_214, z_103_216, qOb_some, krz_v, krz_n, qinv_i, qinv_r, qinv_0, qinv_l, Nat.reduceAdd, List.getElem?_cons_zero, List.getElem?_cons_succ, List.set_cons_zero, List.set_cons_succ, List.length_cons, List.length_nil, not_true_eq_false, not_false_eq_true, false_implies, true_implies, and_true, true_and, and_false, false_and, if_true, if_false, forall_const, or_true, true_or, false_or, or_false, w_low4, w_low9, e0, k4, n4]
      exact h9'
    · have h9' := at153 none (fun m q => by cases q)
      have e0 : (nI (lowV (v >>> (16 &&& 31)) 4) = 0) = False := eq_false (nI_ne0 (by omega) (by have := lowV_lt (v := v >>> (16 &&& 31)) (m := 4) (by decide); omega))
      simp only [z_103_0, z_103_1, z_103_2, z_103_3, z_103_6, z_103_8, z_103_11, z_103_12, z_103_14, z_103_15, z_103_16, z_103_17, z_103_20, z_103_21, z_103_22, z_103_23, z_103_26, z_103_27, z_103_29, z_103_30, z_103_34, z_103_36, z_103_39, z_103_40, z_103_41, z_103_43, z_103_44, z_103_47, z_103_49, z_103_51, z_103_53, z_103_54, z_103_55, z_103_58, z_103_61, z_103_62, z_103_65, z_103_67, z_103_69, z_103_70, z_103_72, z_103_73, z_103_75, z_103_76, z_103_77, z_103_79, z_103_81, z_103_84, z_103_85, z_103_86, z_103_87, z_103_89, z_103_90, z_103_91, z_103_93, z_103_96, z_103_97, z_103_98, z_103_99, z_103_101, z_103_103, z_103_104, z_103_106, z_103_109, z_103_110, z_103_111, z_103_112, z_103_114, z_103_116, z_103_117, z_103_119, z_103_122, z_103_123, z_103_124, z_103_125, z_103_127, z_103_129, z_103_131, z_103_132, z_103_133, z_103_136, z_103_139, z_103_141, z_103_143, z_103_144, z_103_146, z_103_149, z_103_152, z_103_154, z_103_155, z_103_156, z_103_158, z_103_159, z_103_160, z_103_161, z_103_162, z_103_164, z_103_165, z_103_166, z_103_167, z_103_168, z_103_170, z_103_171, z_103_172, z_103_173, z_103_174, z_103_176, z_103_177, z_103_178, z_103_179, z_103_180, z_103_182, z_103_184, z_103_185, z_103_187, z_103_190, z_103_191, z_103_194, z_103_196, z_103_197, z_103_199, z_103_200, z_103_202, z_103_203, z_103_206, z_103_208, z_103_211, z_103_214, z_103_216, qOb_some, krz_v, krz_n, qinv_i, qinv_r, qinv_0, qinv_l, Nat.reduceAdd, List.getElem?_cons_zero, List.getElem?_cons_succ, List.set_cons_zero, List.set_cons_succ, List.length_cons, List.length_nil, not_true_eq_false, not_false_eq_true, false_implies, true_implies, and_true, true_and, and_false, false_and, if_true, if_false, forall_const, or_true, true_or, false_or, or_false, w_low4, w_low9, e0, k4, n4]
      exact h9'
  simp only [z_103_34, z_103_36, z_103_39, z_103_40, z_103_41, z_103_43, z_103_44, z_103_47, z_103_49, z_103_51, z_103_53, z_103_54, z_103_55, z_103_58, z_103_61, z_103_62, z_103_65, qOb_some, krz_v, krz_n, qinv_i, qinv_r, qinv_0, qinv_l, Nat.reduceAdd, List.getElem?_cons_zero, List.getElem?_cons_succ, List.set_cons_zero, List.set_cons_succ, List.length_cons, List.length_nil, not_true_eq_false, not_false_eq_true, false_implies, true_implies, and_true, true_and, and_false, false_and, if_true, if_false, forall_const, or_true, true_or, false_or, or_false, e1, z1, w_cell hsc hL (show 1 + t < 1000 by omega), w_low3, k1, n1]
  exact ⟨fun _ => at67 4 _ (by decide) (by decide) _, fun _ => at67 cols _ (by omega) (by omega) _⟩
theorem tells_loop {L : Nat} {xs : Nat → Int32} {tiles cols : Nat} {Q : qR → qM → Prop} (hL : L ≤ 260) (h8 : tiles ≤ 8) (hc2 : 2 ≤ cols) (hc3 : cols ≤ 3) (hQ : ∀ M' T wo, TelAt M' T wo tiles → Q (.inl (some (.int (nI tiles)))) M') :
    ∀ (r t k n : Nat) (l7 l8 l9 l10 : Option Value) (T : TS) (wo : Nat → Option Nat) (M : qM), t + r = tiles → k ≤ 3 * t → n ≤ 16 * t → okL l9 → okL l10 → TelAt M T wo t → gz (some (L, xs)) 103 32 [some (.ref 0), some (.ref qSCR), some (.ref 101), some (.ref 102), some (.int (nI tiles)), some (.int (nI cols)), some (.int (nI t)), l7, l8, l9, l10] [] M k n Q := by
  intro r
  induction r with
  | zero =>
    intro t k n l7 l8 l9 l10 T wo M ht hk hn _ _ hA
    have e : t = tiles := by omega
    subst e
    have e1 : (nI t ≤ nI t) = True := eq_true (Int32.le_refl _)
    rw [z_103_32]
    simp only [z_103_0, z_103_1, z_103_2, z_103_3, z_103_6, z_103_8, z_103_11, z_103_12, z_103_14, z_103_15, z_103_16, z_103_17, z_103_20, z_103_21, z_103_22, z_103_23, z_103_26, z_103_27, z_103_29, z_103_30, z_103_34, z_103_36, z_103_39, z_103_40, z_103_41, z_103_43, z_103_44, z_103_47, z_103_49, z_103_51, z_103_53, z_103_54, z_103_55, z_103_58, z_103_61, z_103_62, z_103_65, z_103_67, z_103_69, z_103_70, z_103_72, z_103_73, z_103_75, z_103_76, z_103_77, z_103_79, z_103_81, z_103_84, z_103_85, z_103_86, z_103_87, z_103_89, z_103_90, z_103_91, z_103_93, z_103_96, z_103_97, z_103_98, z_103_99, z_103_101, z_103_103, z_103_104, z_103_106, z_103_109, z_103_110, z_103_111, z_103_112, z_103_114, z_103_116, z_103_117, z_103_119, z_103_122, z_103_123, z_103_124, z_103_125, z_103_127, z_103_129, z_103_131, z_103_132, z_103_133, z_103_136, z_103_139, z_103_141, z_103_143, z_103_144, z_103_146, z_103_149, z_103_152, z_103_153, z_103_154, z_103_155, z_103_156, z_103_158, z_103_159, z_103_160, z_103_161, z_103_162, z_103_164, z_103_165, z_103_166, z_103_167, z_103_168, z_103_170, z_103_171, z_103_172, z_103_173, z_103_174, z_103_176, z_103_177, z_103_178, z_103_179, z_103_180, z_103_182, z_103_184, z_103_185, z_103_187, z_103_190, z_103_191, z_103_194, z_103_196, z_103_197, z_103_199, z_103_200, z_103_202, z_103_203, z_103_206, z_103_208, z_103_211, z_103_214, z_103_216, qOb_some, krz_v, krz_n, qinv_i, qinv_r, qinv_0, qinv_l, Nat.reduceAdd, List.getElem?_cons_zero, List.getElem?_cons_succ, List.set_cons_zero, List.set_cons_succ, List.length_cons, List.length_nil, not_true_eq_false, not_false_eq_true, false_implies, true_implies, and_true, true_and, and_false, false_and, if_true, if_false, forall_const, or_true, true_or, false_or, or_false, e1]
    exact hQ M T wo hA
  | succ r ih =>
    intro t k n l7 l8 l9 l10 T wo M ht hk hn h9 h10 hA
    exact tells_turn hL (by omega) h8 hc2 hc3 hk hn h9 h10 hA (fun k n l7 l8 l9 l10 T wo M a1 a2 a3 a4 a5 => ih (t + 1) k n l7 l8 l9 l10 T wo M (by omega) a1 a2 a3 a4 a5)
theorem w_tells {L : Nat} {xs : Nat → Int32} {M : qM} {wo : Nat → Option Nat} {Q : qR → qM → Prop} (hL : L ≤ 260) (hA : TelAt M T00 wo 0) (hQ : ∀ M' T wo' n, 2 ≤ n → n ≤ 8 → TelAt M' T wo' n → Q (.inl (some (.int (nI n)))) M') : clz (some (L, xs)) 103 [.ref 0, .ref qSCR, .ref 101, .ref 102] M Q := by
  have hsc := hA.2.2.2.1.scr
  have b1 := lowV_lt (v := cellV L xs 0) (m := 7) (by decide)
  have b2 := lowV_lt (v := cellV L xs 0 >>> (4 &&& 31)) (m := 2) (by decide)
  have key : ∀ l7 l8, gz (some (L, xs)) 103 32 [some (.ref 0), some (.ref qSCR), some (.ref 101), some (.ref 102), some (.int (nI (2 + lowV (cellV L xs 0) 7))), some (.int (nI (2 + lowV (cellV L xs 0 >>> (4 &&& 31)) 2))), some (.int 0), l7, l8, none, none] [] M 0 0 Q := fun l7 l8 => tells_loop hL (by omega) (by omega) (by omega) (fun M' T wo' h => hQ M' T wo' _ (by omega) (by omega) h) _ 0 0 0 l7 l8 none none T00 wo M (Nat.zero_add _) (by decide) (by decide) okL_0 okL_0 hA
  have e2 : ∀ t, (2 : Int32) + nI t = nI (2 + t) := fun t => nI_add 2 t
  have w0 : ∀ {M' : qM} {Q' : qR → qM → Prop}, M'[qSCR]? = none → (clz (some (L, xs)) 101 [.ref qSCR, .int 0] M' Q' ↔ Q' (.inl (some (.int (cellV L xs 0)))) M') := fun h => w_cellK 0 rfl h hL (by decide)
  rw [ez_103]
  simp only [z_103_0, z_103_1, z_103_2, z_103_3, z_103_6, z_103_8, z_103_11, z_103_12, z_103_14, z_103_15, z_103_16, z_103_17, z_103_20, z_103_21, z_103_22, z_103_23, z_103_26, z_103_27, z_103_29, z_103_30, z_103_34, z_103_36, z_103_39, z_103_40, z_103_41, z_103_43, z_103_44, z_103_47, z_103_49, z_103_51, z_103_53, z_103_54, z_103_55, z_103_58, z_103_61, z_103_62, z_103_65, z_103_67, z_103_69, z_103_70, z_103_72, z_103_73, z_103_75, z_103_76, z_103_77, z_103_79, z_103_81, z_103_84, z_103_85, z_103_86, z_103_87, z_103_89, z_103_90, z_103_91, z_103_93, z_103_96, z_103_97, z_103_98, z_103_99, z_103_101, z_103_103, z_103_104, z_103_106, z_103_109, z_103_110, z_103_111, z_103_112, z_103_114, z_103_116, z_103_117, z_103_119, z_103_122, z_103_123, z_103_124, z_103_125, z_103_127, z_103_129, z_103_131, z_103_132, z_103_133, z_103_136, z_103_139, z_103_141, z_103_143, z_103_144, z_103_146, z_103_149, z_103_152, z_103_153, z_103_154, z_103_155, z_103_156, z_103_158, z_103_159, z_103_160, z_103_161, z_103_162, z_103_164, z_103_165, z_103_166, z_103_167, z_103_168, z_103_170, z_103_171, z_103_172, z_103_173, z_103_174, z_103_176, z_103_177, z_103_178, z_103_179, z_103_180, z_103_182, z_103_184, z_103_185, z_103_187, z_103_190, z_103_191, z_103_194, z_103_196, z_103_197, z_103_199, z_103_200, z_103_202, z_103_203, z_103_206, z_103_208, z_103_211, z_103_214, z_103_216, qOb_some, krz_v, krz_n, qinv_i, qinv_r, qinv_0, qinv_l, Nat.reduceAdd, List.getElem?_cons_zero, List.getElem?_cons_succ, List.set_cons_zero, List.set_cons_succ, List.length_cons, List.length_nil, not_true_eq_false, not_false_eq_true, false_implies, true_implies, and_true, true_and, and_false, false_and, if_true, if_false, forall_const, or_true, true_or, false_or, or_false, w0 hsc, w_low7, w_low2, e2, show 0 ≤ 100 from by decide, show 0 ≤ 1000 from by decide]
  exact key _ _
