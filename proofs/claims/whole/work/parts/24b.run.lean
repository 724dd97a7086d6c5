/-! the law's loop, its start, and all of it -/
theorem nI_m6 {N i : Nat} (hN : N ≤ 3072) (hi : i ≤ 3100) : (nI N - 6 < nI i) ↔ N < i + 6 := by
  have e : (nI N - nI 6).toInt = (N : Int) - (6 : Nat) := pk_sub_toInt (by omega) (by omega)
  have e2 : (nI i).toInt = (i : Int) := nI_toInt (by omega)
  rw [show nI N - 6 = nI N - nI 6 from rfl, Int32.lt_iff_toInt_lt, e, e2]
  omega
theorem and31 (z : Int32) : z &&& 31 = nI (z &&& 31).toBitVec.toNat ∧ (z &&& 31).toBitVec.toNat < 32 := by
  constructor
  · apply Int32.toBitVec_inj.mp
    simp only [nI, Int32.toBitVec_ofNat']
    apply BitVec.eq_of_toNat_eq
    simp only [BitVec.toNat_ofNat]
    exact (Nat.mod_eq_of_lt (z &&& 31).toBitVec.isLt).symm
  · rw [Int32.toBitVec_and, BitVec.toNat_and]
    have : (31 : Int32).toBitVec.toNat = 31 := by decide
    rw [this]
    exact Nat.lt_of_le_of_lt Nat.and_le_right (by decide)
theorem L_sw {N : Nat} {xs : Nat → Int32} {i k n0 : Nat} {Q : qR → qM → Prop} {M : qM} {s : Nat → Int32} {T : TS} {sd w h : Nat} {F : Nat → Option Nat} {B : Nat → Nat} {wo : Nat → Option Nat} {rd fd : Bool} {tl : Nat → Nat} {gs tk n : Nat} {cx cy : Nat → Int32} {ce : Nat → Nat} {ct : Nat → Nat → Nat} {l6 l7 l8 l9 : Option Value} (hN : i + 6 ≤ N) (hN2 : N ≤ 3072) (hS : SOk T sd w h F B wo rd fd tl gs tk n cx cy ce ct) (hI : InvC M T sd w h F B wo rd fd tl gs tk n cx cy ce ct) (hJ : InvM M s T sd w h F B wo rd fd tl gs tk n cx cy ce ct) (hO : Outs M) (hk : k + 1 ≤ 601024) (hn : n0 + 6 ≤ 7293034) (nx : LN N xs i k n0 Q) (v : Nat) (hv : v < 32) : qOb (q_tsw 45 1542 0 26 #[123, 227, 283, 351, 419, 494, 550, 618, 659, 746, 802, 858, 914, 927, 983, 996, 1009, 1053, 1097, 1165, 1245, 1353, 1366, 1379, 1422, 1463, 1529] (nI v)) (fun t => gL N xs t [some (.ref qSCR), some (.ref 0), some (.ref 101), some (.ref 119), some (.ref 120), some (.int (nI i)), l6, l7, l8, l9] [] M k n0 Q) := by
  match v, hv with
  | 0, _ => exact (qOb_eq (show q_tsw 45 1542 0 26 #[123, 227, 283, 351, 419, 494, 550, 618, 659, 746, 802, 858, 914, 927, 983, 996, 1009, 1053, 1097, 1165, 1245, 1353, 1366, 1379, 1422, 1463, 1529] (nI 0) = some 168 by decide +kernel)).mpr (L_0 hN hN2 hS hI hJ hO hk hn nx)
  | 1, _ => exact (qOb_eq (show q_tsw 45 1542 0 26 #[123, 227, 283, 351, 419, 494, 550, 618, 659, 746, 802, 858, 914, 927, 983, 996, 1009, 1053, 1097, 1165, 1245, 1353, 1366, 1379, 1422, 1463, 1529] (nI 1) = some 272 by decide +kernel)).mpr (L_1 hN hN2 hS hI hJ hO hk hn nx)
  | 2, _ => exact (qOb_eq (show q_tsw 45 1542 0 26 #[123, 227, 283, 351, 419, 494, 550, 618, 659, 746, 802, 858, 914, 927, 983, 996, 1009, 1053, 1097, 1165, 1245, 1353, 1366, 1379, 1422, 1463, 1529] (nI 2) = some 328 by decide +kernel)).mpr (L_2 hN hN2 hS hI hJ hO hk hn nx)
  | 3, _ => exact (qOb_eq (show q_tsw 45 1542 0 26 #[123, 227, 283, 351, 419, 494, 550, 618, 659, 746, 802, 858, 914, 927, 983, 996, 1009, 1053, 1097, 1165, 1245, 1353, 1366, 1379, 1422, 1463, 1529] (nI 3) = some 396 by decide +kernel)).mpr (L_3 hN hN2 hS hI hJ hO hk hn nx)
  | 4, _ => exact (qOb_eq (show q_tsw 45 1542 0 26 #[123, 227, 283, 351, 419, 494, 550, 618, 659, 746, 802, 858, 914, 927, 983, 996, 1009, 1053, 1097, 1165, 1245, 1353, 1366, 1379, 1422, 1463, 1529] (nI 4) = some 464 by decide +kernel)).mpr (L_4 hN hN2 hS hI hJ hO hk hn nx)
  | 5, _ => exact (qOb_eq (show q_tsw 45 1542 0 26 #[123, 227, 283, 351, 419, 494, 550, 618, 659, 746, 802, 858, 914, 927, 983, 996, 1009, 1053, 1097, 1165, 1245, 1353, 1366, 1379, 1422, 1463, 1529] (nI 5) = some 539 by decide +kernel)).mpr (L_5 hN hN2 hS hI hJ hO hk hn nx)
  | 6, _ => exact (qOb_eq (show q_tsw 45 1542 0 26 #[123, 227, 283, 351, 419, 494, 550, 618, 659, 746, 802, 858, 914, 927, 983, 996, 1009, 1053, 1097, 1165, 1245, 1353, 1366, 1379, 1422, 1463, 1529] (nI 6) = some 595 by decide +kernel)).mpr (L_6 hN hN2 hS hI hJ hO hk hn nx)
  | 7, _ => exact (qOb_eq (show q_tsw 45 1542 0 26 #[123, 227, 283, 351, 419, 494, 550, 618, 659, 746, 802, 858, 914, 927, 983, 996, 1009, 1053, 1097, 1165, 1245, 1353, 1366, 1379, 1422, 1463, 1529] (nI 7) = some 663 by decide +kernel)).mpr (L_7 hN hN2 hS hI hJ hO hk hn nx)
  | 8, _ => exact (qOb_eq (show q_tsw 45 1542 0 26 #[123, 227, 283, 351, 419, 494, 550, 618, 659, 746, 802, 858, 914, 927, 983, 996, 1009, 1053, 1097, 1165, 1245, 1353, 1366, 1379, 1422, 1463, 1529] (nI 8) = some 704 by decide +kernel)).mpr (L_8 hN hN2 hS hI hJ hO hk hn nx)
  | 9, _ => exact (qOb_eq (show q_tsw 45 1542 0 26 #[123, 227, 283, 351, 419, 494, 550, 618, 659, 746, 802, 858, 914, 927, 983, 996, 1009, 1053, 1097, 1165, 1245, 1353, 1366, 1379, 1422, 1463, 1529] (nI 9) = some 791 by decide +kernel)).mpr (L_9 hN hN2 hS hI hJ hO hk hn nx)
  | 10, _ => exact (qOb_eq (show q_tsw 45 1542 0 26 #[123, 227, 283, 351, 419, 494, 550, 618, 659, 746, 802, 858, 914, 927, 983, 996, 1009, 1053, 1097, 1165, 1245, 1353, 1366, 1379, 1422, 1463, 1529] (nI 10) = some 847 by decide +kernel)).mpr (L_10 hN hN2 hS hI hJ hO hk hn nx)
  | 11, _ => exact (qOb_eq (show q_tsw 45 1542 0 26 #[123, 227, 283, 351, 419, 494, 550, 618, 659, 746, 802, 858, 914, 927, 983, 996, 1009, 1053, 1097, 1165, 1245, 1353, 1366, 1379, 1422, 1463, 1529] (nI 11) = some 903 by decide +kernel)).mpr (L_11 hN hN2 hS hI hJ hO hk hn nx)
  | 12, _ => exact (qOb_eq (show q_tsw 45 1542 0 26 #[123, 227, 283, 351, 419, 494, 550, 618, 659, 746, 802, 858, 914, 927, 983, 996, 1009, 1053, 1097, 1165, 1245, 1353, 1366, 1379, 1422, 1463, 1529] (nI 12) = some 959 by decide +kernel)).mpr (L_12 hN hN2 hS hI hJ hO hk hn nx)
  | 13, _ => exact (qOb_eq (show q_tsw 45 1542 0 26 #[123, 227, 283, 351, 419, 494, 550, 618, 659, 746, 802, 858, 914, 927, 983, 996, 1009, 1053, 1097, 1165, 1245, 1353, 1366, 1379, 1422, 1463, 1529] (nI 13) = some 972 by decide +kernel)).mpr (L_13 hN hN2 hS hI hJ hO hk hn nx)
  | 14, _ => exact (qOb_eq (show q_tsw 45 1542 0 26 #[123, 227, 283, 351, 419, 494, 550, 618, 659, 746, 802, 858, 914, 927, 983, 996, 1009, 1053, 1097, 1165, 1245, 1353, 1366, 1379, 1422, 1463, 1529] (nI 14) = some 1028 by decide +kernel)).mpr (L_14 hN hN2 hS hI hJ hO hk hn nx)
  | 15, _ => exact (qOb_eq (show q_tsw 45 1542 0 26 #[123, 227, 283, 351, 419, 494, 550, 618, 659, 746, 802, 858, 914, 927, 983, 996, 1009, 1053, 1097, 1165, 1245, 1353, 1366, 1379, 1422, 1463, 1529] (nI 15) = some 1041 by decide +kernel)).mpr (L_15 hN hN2 hS hI hJ hO hk hn nx)
  | 16, _ => exact (qOb_eq (show q_tsw 45 1542 0 26 #[123, 227, 283, 351, 419, 494, 550, 618, 659, 746, 802, 858, 914, 927, 983, 996, 1009, 1053, 1097, 1165, 1245, 1353, 1366, 1379, 1422, 1463, 1529] (nI 16) = some 1054 by decide +kernel)).mpr (L_16 hN hN2 hS hI hJ hO hk hn nx)
  | 17, _ => exact (qOb_eq (show q_tsw 45 1542 0 26 #[123, 227, 283, 351, 419, 494, 550, 618, 659, 746, 802, 858, 914, 927, 983, 996, 1009, 1053, 1097, 1165, 1245, 1353, 1366, 1379, 1422, 1463, 1529] (nI 17) = some 1098 by decide +kernel)).mpr (L_17 hN hN2 hS hI hJ hO hk hn nx)
  | 18, _ => exact (qOb_eq (show q_tsw 45 1542 0 26 #[123, 227, 283, 351, 419, 494, 550, 618, 659, 746, 802, 858, 914, 927, 983, 996, 1009, 1053, 1097, 1165, 1245, 1353, 1366, 1379, 1422, 1463, 1529] (nI 18) = some 1142 by decide +kernel)).mpr (L_18 hN hN2 hS hI hJ hO hk hn nx)
  | 19, _ => exact (qOb_eq (show q_tsw 45 1542 0 26 #[123, 227, 283, 351, 419, 494, 550, 618, 659, 746, 802, 858, 914, 927, 983, 996, 1009, 1053, 1097, 1165, 1245, 1353, 1366, 1379, 1422, 1463, 1529] (nI 19) = some 1210 by decide +kernel)).mpr (L_19 hN hN2 hS hI hJ hO hk hn nx)
  | 20, _ => exact (qOb_eq (show q_tsw 45 1542 0 26 #[123, 227, 283, 351, 419, 494, 550, 618, 659, 746, 802, 858, 914, 927, 983, 996, 1009, 1053, 1097, 1165, 1245, 1353, 1366, 1379, 1422, 1463, 1529] (nI 20) = some 1290 by decide +kernel)).mpr (L_20 hN hN2 hS hI hJ hO hk hn nx)
  | 21, _ => exact (qOb_eq (show q_tsw 45 1542 0 26 #[123, 227, 283, 351, 419, 494, 550, 618, 659, 746, 802, 858, 914, 927, 983, 996, 1009, 1053, 1097, 1165, 1245, 1353, 1366, 1379, 1422, 1463, 1529] (nI 21) = some 1398 by decide +kernel)).mpr (L_21 hN hN2 hS hI hJ hO hk hn nx)
  | 22, _ => exact (qOb_eq (show q_tsw 45 1542 0 26 #[123, 227, 283, 351, 419, 494, 550, 618, 659, 746, 802, 858, 914, 927, 983, 996, 1009, 1053, 1097, 1165, 1245, 1353, 1366, 1379, 1422, 1463, 1529] (nI 22) = some 1411 by decide +kernel)).mpr (L_22 hN hN2 hS hI hJ hO hk hn nx)
  | 23, _ => exact (qOb_eq (show q_tsw 45 1542 0 26 #[123, 227, 283, 351, 419, 494, 550, 618, 659, 746, 802, 858, 914, 927, 983, 996, 1009, 1053, 1097, 1165, 1245, 1353, 1366, 1379, 1422, 1463, 1529] (nI 23) = some 1424 by decide +kernel)).mpr (L_23 hN hN2 hS hI hJ hO hk hn nx)
  | 24, _ => exact (qOb_eq (show q_tsw 45 1542 0 26 #[123, 227, 283, 351, 419, 494, 550, 618, 659, 746, 802, 858, 914, 927, 983, 996, 1009, 1053, 1097, 1165, 1245, 1353, 1366, 1379, 1422, 1463, 1529] (nI 24) = some 1467 by decide +kernel)).mpr (L_24 hN hN2 hS hI hJ hO hk hn nx)
  | 25, _ => exact (qOb_eq (show q_tsw 45 1542 0 26 #[123, 227, 283, 351, 419, 494, 550, 618, 659, 746, 802, 858, 914, 927, 983, 996, 1009, 1053, 1097, 1165, 1245, 1353, 1366, 1379, 1422, 1463, 1529] (nI 25) = some 1508 by decide +kernel)).mpr (L_25 hN hN2 hS hI hJ hO hk hn nx)
  | 26, _ => exact (qOb_eq (show q_tsw 45 1542 0 26 #[123, 227, 283, 351, 419, 494, 550, 618, 659, 746, 802, 858, 914, 927, 983, 996, 1009, 1053, 1097, 1165, 1245, 1353, 1366, 1379, 1422, 1463, 1529] (nI 26) = some 1574 by decide +kernel)).mpr (L_26 hN hN2 hS hI hJ hO hk hn nx)
  | 27, _ => exact (qOb_eq (show q_tsw 45 1542 0 26 #[123, 227, 283, 351, 419, 494, 550, 618, 659, 746, 802, 858, 914, 927, 983, 996, 1009, 1053, 1097, 1165, 1245, 1353, 1366, 1379, 1422, 1463, 1529] (nI 27) = some 1587 by decide +kernel)).mpr (nx hS M s hI hJ hO k n0 l6 l7 l8 l9 (by omega) (by omega))
  | 28, _ => exact (qOb_eq (show q_tsw 45 1542 0 26 #[123, 227, 283, 351, 419, 494, 550, 618, 659, 746, 802, 858, 914, 927, 983, 996, 1009, 1053, 1097, 1165, 1245, 1353, 1366, 1379, 1422, 1463, 1529] (nI 28) = some 1587 by decide +kernel)).mpr (nx hS M s hI hJ hO k n0 l6 l7 l8 l9 (by omega) (by omega))
  | 29, _ => exact (qOb_eq (show q_tsw 45 1542 0 26 #[123, 227, 283, 351, 419, 494, 550, 618, 659, 746, 802, 858, 914, 927, 983, 996, 1009, 1053, 1097, 1165, 1245, 1353, 1366, 1379, 1422, 1463, 1529] (nI 29) = some 1587 by decide +kernel)).mpr (nx hS M s hI hJ hO k n0 l6 l7 l8 l9 (by omega) (by omega))
  | 30, _ => exact (qOb_eq (show q_tsw 45 1542 0 26 #[123, 227, 283, 351, 419, 494, 550, 618, 659, 746, 802, 858, 914, 927, 983, 996, 1009, 1053, 1097, 1165, 1245, 1353, 1366, 1379, 1422, 1463, 1529] (nI 30) = some 1587 by decide +kernel)).mpr (nx hS M s hI hJ hO k n0 l6 l7 l8 l9 (by omega) (by omega))
  | 31, _ => exact (qOb_eq (show q_tsw 45 1542 0 26 #[123, 227, 283, 351, 419, 494, 550, 618, 659, 746, 802, 858, 914, 927, 983, 996, 1009, 1053, 1097, 1165, 1245, 1353, 1366, 1379, 1422, 1463, 1529] (nI 31) = some 1587 by decide +kernel)).mpr (nx hS M s hI hJ hO k n0 l6 l7 l8 l9 (by omega) (by omega))
  | n + 32, h => exact absurd h (by omega)
theorem L_body {N : Nat} {xs : Nat → Int32} {i k n0 : Nat} {Q : qR → qM → Prop} {M : qM} {s : Nat → Int32} {T : TS} {sd w h : Nat} {F : Nat → Option Nat} {B : Nat → Nat} {wo : Nat → Option Nat} {rd fd : Bool} {tl : Nat → Nat} {gs tk n : Nat} {cx cy : Nat → Int32} {ce : Nat → Nat} {ct : Nat → Nat → Nat} {l6 l7 l8 l9 : Option Value} (hN : i + 6 ≤ N) (hN2 : N ≤ 3072) (hS : SOk T sd w h F B wo rd fd tl gs tk n cx cy ce ct) (hI : InvC M T sd w h F B wo rd fd tl gs tk n cx cy ce ct) (hJ : InvM M s T sd w h F B wo rd fd tl gs tk n cx cy ce ct) (hO : Outs M) (hk : k + 1 ≤ 601024) (hn : n0 + 6 ≤ 7293034) (nx : LN N xs i k n0 Q) : gL N xs 38 [some (.ref qSCR), some (.ref 0), some (.ref 101), some (.ref 119), some (.ref 120), some (.int (nI i)), l6, l7, l8, l9] [] M k n0 Q := by
  rw [gL_38, gL_39, gL_41, qOb_eq (ald_S hO.2.2 (show i < N by omega) hN2), gL_42, gL_44, gL_45, (and31 (xs i)).1]
  exact L_sw hN hN2 hS hI hJ hO hk hn nx _ (and31 (xs i)).2
theorem L_head {N : Nat} {xs : Nat → Int32} {i k n0 : Nat} {Q : qR → qM → Prop} {M : qM} {l6 l7 l8 l9 : Option Value} (hN2 : N ≤ 3072) (hi : i ≤ N) (hO : Outs M) (hq : Q (.inl (some (.int 1))) M) (hb : i + 6 ≤ N → gL N xs 38 [some (.ref qSCR), some (.ref 0), some (.ref 101), some (.ref 119), some (.ref 120), some (.int (nI i)), l6, l7, l8, l9] [] M k n0 Q) : gL N xs 28 [some (.ref qSCR), some (.ref 0), some (.ref 101), some (.ref 119), some (.ref 120), some (.int (nI i)), l6, l7, l8, l9] [] M k n0 Q := by
  rw [gL_28, gL_30, gL_31, qOb_eq (len_S hO.2.2), gL_32, gL_34, gL_35, gL_1593, gL_1594]
  refine ⟨fun _ => ⟨Or.inr rfl, hq⟩, fun h => hb ?_⟩
  rw [nI_m6 hN2 (by omega)] at h
  omega
theorem L_loop {N : Nat} {xs : Nat → Int32} {Q : qR → qM → Prop} (hN2 : N ≤ 3072) (hQ : ∀ M, Q (.inl (some (.int 1))) M) (d : Nat) : ∀ (it k n0 : Nat) (M : qM) (s : Nat → Int32) (l6 l7 l8 l9 : Option Value) (T : TS) (sd w h : Nat) (F : Nat → Option Nat) (B : Nat → Nat) (wo : Nat → Option Nat) (rd fd : Bool) (tl : Nat → Nat) (gs tk n : Nat) (cx cy : Nat → Int32) (ce : Nat → Nat) (ct : Nat → Nat → Nat), N < 6 * it + 6 * d + 6 → 6 * it ≤ N → SOk T sd w h F B wo rd fd tl gs tk n cx cy ce ct → InvC M T sd w h F B wo rd fd tl gs tk n cx cy ce ct → InvM M s T sd w h F B wo rd fd tl gs tk n cx cy ce ct → Outs M → k ≤ 200 + it → n0 ≤ 90000 + 6 * it → gL N xs 28 [some (.ref qSCR), some (.ref 0), some (.ref 101), some (.ref 119), some (.ref 120), some (.int (nI (6 * it))), l6, l7, l8, l9] [] M k n0 Q := by
  induction d with
  | zero =>
    intro it k n0 M s l6 l7 l8 l9 T sd w h F B wo rd fd tl gs tk n cx cy ce ct h1 h2 hS hI hJ hO hk hn
    exact L_head hN2 h2 hO (hQ _) (fun q => absurd q (by omega))
  | succ d ih =>
    intro it k n0 M s l6 l7 l8 l9 T sd w h F B wo rd fd tl gs tk n cx cy ce ct h1 h2 hS hI hJ hO hk hn
    refine L_head hN2 h2 hO (hQ _) (fun h6 => L_body h6 hN2 hS hI hJ hO (by omega) (by omega) ?_)
    intro T' sd' w' h' F' B' wo' rd' fd' tl' gs' tk' n' cx' cy' ce' ct' hS' M' s' hI' hJ' hO' k' m' l6' l7' l8' l9' hk' hn'
    rw [gL_1587, qinv_r, gL_1590, show nI (6 * it) + 6 = nI (6 * (it + 1)) from nI_add (6 * it) 6]
    exact ih (it + 1) k' m' M' s' l6' l7' l8' l9' T' sd' w' h' F' B' wo' rd' fd' tl' gs' tk' n' cx' cy' ce' ct' (by omega) (by omega) hS' hI' hJ' hO' (by omega) (by omega)
theorem qmk_ok {L : qL} {st : List Value} {M : qM} {e : qE} {o : Nat} (ho : M.length = o) (h1 : o < qSCR) (h2 : qscM o M = true) (h3 : qscL o L = true) (h4 : qscS o st = true) (h5 : qscM o [e] = true) : qmk (q_al 180) L st M e = some (.ref o :: st, M ++ [e]) := by
  subst ho
  unfold qmk
  rw [if_pos ⟨(show q_al 180 = true by decide +kernel), h1, h2, h3, h4, h5⟩]
theorem gL_new {N : Nat} {xs : Nat → Int32} {pc k n o a b c : Nat} {ix : Nat} {L : qL} {st : List Value} {M : qM} {Q : qR → qM → Prop} (hc : q_code 180 pc = some (.new ix, 3, a, b, c)) (ha : a < 1000) {c1 : Nat} (e1 : q_N a = c1) (hk : k + 1 ≤ q_mc 180) (hn : n + c1 ≤ q_ms 180) (ho : M.length = o) (h1 : o < qSCR) (h2 : qscM o M = true) (h3 : qscL o L = true) (h4 : qscS o st = true) (h5 : qscM o [.inr (a, q_df a)] = true) (h : gL N xs (pc + 3) L (.ref o :: st) (M ++ [.inr (a, q_df a)]) (k + 1) (n + c1) Q) : gL N xs pc L st M k n Q := by
  subst e1
  refine (qG_step hc rfl (Or.inr ha)).mpr ⟨(pc + 3, L, .ref o :: st, M ++ [(.inr (a, q_df a) : qE)], k + 1, n + q_N a), ?_, h⟩
  show (if k + 1 ≤ q_mc 180 ∧ n + q_N a ≤ q_ms 180 then (qmk (q_al 180) L st M (.inr (a, q_df a))).map (fun p => (pc + 3, L, p.1, p.2, k + 1, n + q_N a)) else none) = _
  rw [if_pos ⟨hk, hn⟩, qmk_ok ho h1 h2 h3 h4 h5]
  rfl
theorem gL_arr {N : Nat} {xs : Nat → Int32} {pc k n o a b c u m : Nat} {t : ArrayType} {g : Nat → vp_A} {y : Int32} {L : qL} {st : List Value} {M : qM} {Q : qR → qM → Prop} (hc : q_code 180 pc = some (.newarray t, 2, a, b, c)) (ht : q_at t = some (u, g)) (hy : 0 ≤ y) (hm : y.toNatClampNeg = m) (hm1 : m ≤ 10000) (hk : k + 1 ≤ q_mc 180) (hn : n + m ≤ q_ms 180) (ho : M.length = o) (h1 : o < qSCR) (h2 : qscM o M = true) (h3 : qscL o L = true) (h4 : qscS o st = true) (h : gL N xs (pc + 2) L (.ref o :: st) (M ++ [.inl (u, g m)]) (k + 1) (n + m) Q) : gL N xs pc L (.int y :: st) M k n Q := by
  subst hm
  refine (qG_step hc rfl (Or.inl rfl)).mpr ⟨(pc + 2, L, .ref o :: st, M ++ [(.inl (u, g y.toNatClampNeg) : qE)], k + 1, n + y.toNatClampNeg), ?_, h⟩
  show (match q_at t with
    | some (u, g) => if 0 ≤ y ∧ y.toNatClampNeg ≤ 10000 ∧ k + 1 ≤ q_mc 180 ∧ n + y.toNatClampNeg ≤ q_ms 180 then (qmk (q_al 180) L st M (.inl (u, g y.toNatClampNeg))).map (fun p : List Value × qM => (pc + 2, L, p.1, p.2, k + 1, n + y.toNatClampNeg)) else none
    | none => none) = _
  rw [ht]
  simp only []
  rw [if_pos ⟨hy, hm1, hk, hn⟩, qmk_ok ho h1 h2 h3 h4 rfl]
  rfl
theorem gL_mk {N : Nat} {xs : Nat → Int32} {pc k n a f o : Nat} {L : qL} {st as rest : List Value} {M M1 : qM} {x : qX} {Q : qR → qM → Prop} (hc : q_code 180 pc = some x) (hk : q_kd x.1 = 1) (hcl : q_call x st = some (a, as, rest)) (ha : ¬ 900 ≤ a) (hr : q_rcv M x.2.2.2.2 a as = true) {c1 c2 : Nat} (e1 : q_mc a = c1) (e2 : q_ms a = c2) (hk2 : k + c1 ≤ q_mc 180) (hn2 : n + c2 ≤ q_ms 180) (ho : M.length = o) (hL : qscL o L = true) (hR : qscS o rest = true) (hl : (qexp as).length ≤ q_mL a) (hex : q_exec f none a (0, qloc a as, [], M, 0, 0) = some (.inl none, M1)) (h : gL N xs (pc + 3) L rest M1 (k + c1) (n + c2) Q) : gL N xs pc L st M k n Q := by
  subst ho; subst e1; subst e2
  obtain ⟨f2, r, M', h3, h4⟩ := h
  refine ⟨max f f2 + 1, r, M', ?_, h4⟩
  rw [q_execc hc hk]
  simp only [hcl]
  rw [if_neg ha, if_pos ⟨hr, hk2, hn2, fun _ => ⟨(by decide +kernel), hL, hR⟩, hl⟩, q_mono (Nat.le_max_left f f2) hex]
  exact q_mono (Nat.le_max_right f f2) h3
/-- the law's first instructions: the two objects and the two arrays -/
theorem L_begin {N : Nat} {xs : Nat → Int32} {Q : qR → qM → Prop} {A B : qM} (hA : q_exec 3000 none 60 (0, qloc 60 [.ref 0], [], [.inr (9, q_df 9)], 0, 0) = some (.inl none, A)) (hAl : A.length = 101) (hAs : qscM 101 A = true) (hB : q_exec 3000 none 100 (0, qloc 100 [.ref 101], [], A ++ [.inr (10, q_df 10)], 0, 0) = some (.inl none, B)) (hBl : B.length = 119) (hBs : qscM 119 B = true) (hBt : qscM 120 B = true)
    (h : gL N xs 28 [some (.ref qSCR), some (.ref 0), some (.ref 101), some (.ref 119), some (.ref 120), some (.int (nI 0)), none, none, none, none] [] (B ++ [.inl (2, 1, .inr (.inl fun _ => 0))] ++ [.inl (3, 1, .inr (.inr (.inr (.inl fun _ => 0))))]) 121 79090 Q) : gL N xs 0 (qloc 180 [.ref qSCR]) [] [] 0 0 Q := by
  rw [show qloc 180 [.ref qSCR] = [some (.ref qSCR), none, none, none, none, none, none, none, none, none] by decide +kernel]
  refine gL_new (ix := 8) (a := 9) (b := 12) (c := 0) (o := 0) (c1 := 12) (by decide +kernel) (by decide) (by decide +kernel) (by decide +kernel) (by decide +kernel) rfl (by decide) rfl rfl rfl (by decide +kernel) ?_
  refine (gL_go (pc := 3) (show q_code 180 3 = some (.dup, 1, 0, 0, 0) by decide +kernel) rfl rfl rfl).mpr ?_
  refine gL_mk (pc := 4) (a := 60) (c1 := 100) (c2 := 54562) (o := 1) (rest := [.ref 0]) (show q_code 180 4 = some (.invokespecial 88, 3, 60, 1, 4) by decide +kernel) rfl rfl (by decide) rfl (by decide +kernel) (by decide +kernel) (by decide +kernel) (by decide +kernel) rfl rfl rfl (by decide +kernel) hA ?_
  refine (gL_go (pc := 7) (L' := [some (.ref qSCR), some (.ref 0), none, none, none, none, none, none, none, none]) (show q_code 180 7 = some (.astore_n 1, 1, 0, 0, 0) by decide +kernel) rfl rfl rfl).mpr ?_
  refine gL_new (pc := 8) (ix := 89) (a := 10) (b := 34) (c := 0) (o := 101) (c1 := 34) (by decide +kernel) (by decide) (by decide +kernel) (by decide +kernel) (by decide +kernel) hAl (by decide) hAs (by decide) rfl (by decide +kernel) ?_
  refine (gL_go (pc := 11) (show q_code 180 11 = some (.dup, 1, 0, 0, 0) by decide +kernel) rfl rfl rfl).mpr ?_
  refine gL_mk (pc := 12) (a := 100) (c1 := 17) (c2 := 24480) (o := 102) (rest := [.ref 101]) (show q_code 180 12 = some (.invokespecial 91, 3, 100, 1, 4) by decide +kernel) rfl rfl (by decide) rfl (by decide +kernel) (by decide +kernel) (by decide +kernel) (by decide +kernel) (by rw [List.length_append, hAl]; rfl) (by decide) (by decide) (by decide +kernel) hB ?_
  refine (gL_go (pc := 15) (L' := [some (.ref qSCR), some (.ref 0), some (.ref 101), none, none, none, none, none, none, none]) (show q_code 180 15 = some (.astore_n 2, 1, 0, 0, 0) by decide +kernel) rfl rfl rfl).mpr ?_
  refine (gL_goi (pc := 16) (v' := 1) (show q_code 180 16 = some (.iconst 1, 1, 0, 0, 0) by decide +kernel) rfl rfl rfl (by decide)).mpr ?_
  refine gL_arr (pc := 17) (t := .long) (u := 2) (g := fun n => (n, .inr (.inl fun _ => 0))) (m := 1) (o := 119) (show q_code 180 17 = some (.newarray .long, 2, 0, 0, 0) by decide +kernel) rfl (by decide) (by decide) (by decide) (by decide +kernel) (by decide +kernel) hBl (by decide) hBs (by decide) rfl ?_
  refine (gL_go (pc := 19) (L' := [some (.ref qSCR), some (.ref 0), some (.ref 101), some (.ref 119), none, none, none, none, none, none]) (show q_code 180 19 = some (.astore_n 3, 1, 0, 0, 0) by decide +kernel) rfl rfl rfl).mpr ?_
  refine (gL_goi (pc := 20) (v' := 1) (show q_code 180 20 = some (.iconst 1, 1, 0, 0, 0) by decide +kernel) rfl rfl rfl (by decide)).mpr ?_
  refine gL_arr (pc := 21) (t := .double) (u := 3) (g := fun n => (n, .inr (.inr (.inr (.inl fun _ => 0))))) (m := 1) (o := 120) (show q_code 180 21 = some (.newarray .double, 2, 0, 0, 0) by decide +kernel) rfl (by decide) (by decide) (by decide) (by decide +kernel) (by decide +kernel) (by rw [List.length_append, hBl]; rfl) (by decide) (by rw [qscM, List.all_append, ← qscM, hBt]; rfl) (by decide) rfl ?_
  refine (gL_go (pc := 23) (L' := [some (.ref qSCR), some (.ref 0), some (.ref 101), some (.ref 119), some (.ref 120), none, none, none, none, none]) (show q_code 180 23 = some (.astore 4, 2, 0, 0, 0) by decide +kernel) rfl rfl rfl).mpr ?_
  rw [gL_25, gL_26, qinv_r]
  exact h
theorem L_all {N : Nat} {xs : Nat → Int32} {Q : qR → qM → Prop} {B : qM} (hN2 : N ≤ 3072) (hQ : ∀ M, Q (.inl (some (.int 1))) M) (hBl : B.length = 119) (hC : bC B = true) (hM : bM B = true) : gL N xs 28 [some (.ref qSCR), some (.ref 0), some (.ref 101), some (.ref 119), some (.ref 120), some (.int (nI 0)), none, none, none, none] [] (B ++ [.inl (2, 1, .inr (.inl fun _ => 0))] ++ [.inl (3, 1, .inr (.inr (.inr (.inl fun _ => 0))))]) 121 79090 Q := by
  have hu : ∀ b : Nat, b < 119 → (B ++ [.inl (2, 1, .inr (.inl fun _ => 0))] ++ [.inl (3, 1, .inr (.inr (.inr (.inl fun _ => 0))))] : qM)[b]? = B[b]? := by
    intro b hb
    rw [List.getElem?_append_left (by rw [List.length_append, hBl]; exact Nat.lt_trans hb (by decide)), List.getElem?_append_left (by rw [hBl]; exact hb)]
  refine L_loop hN2 hQ 512 0 121 79090 _ s00 none none none none T00 0 3 3 (fun _ => none) (fun _ => 0) (fun _ => none) false false (fun _ => 0) 0 0 0 (fun _ => 0) (fun _ => 0) (fun _ => 0) (fun _ _ => 0) (by omega) (by omega) SOk_00 ((bC_eq hC).low (fun b hb => hu b (by omega))) ((bM_eq hM).mid (fun b _ hb => hu b hb)) ⟨⟨fun _ => 0, ?_⟩, ⟨fun _ => 0, ?_⟩, ?_⟩ (by decide) (by decide)
  · rw [List.getElem?_append_left (by rw [List.length_append, hBl]; decide), List.getElem?_append_right (by rw [hBl]; exact Nat.le_refl _), hBl]
    rfl
  · rw [List.getElem?_append_right (by rw [List.length_append, hBl]; decide), List.length_append, hBl]
    rfl
  · refine List.getElem?_eq_none ?_
    rw [List.length_append, List.length_append, hBl]
    decide
theorem law_runs (L : Nat) (xs : Nat → Int32) (hL : L ≤ 3072) : ∃ (f : Nat) (M' : qM), q_exec f (some (L, xs)) 180 (0, qloc 180 [.ref qSCR], [], [], 0, 0) = some (.inl (some (.int 1)), M') := by
  have hz := z_chk
  simp only [Bool.and_eq_true, decide_eq_true_eq] at hz
  obtain ⟨z1, z2, z3, z4, z5, z6, z7, z8, z9⟩ := hz
  have key : gL L xs 0 (qloc 180 [.ref qSCR]) [] [] 0 0 (fun r _ => r = .inl (some (.int 1))) := L_begin (A := M60) (B := M100) (bN_eq z1) z2 z3 (bN_eq z4) z5 z6 z7 (L_all hL (fun _ => rfl) z5 z8 z9)
  obtain ⟨f, r, M', h1, h2⟩ := key
  exact ⟨f, M', h1.trans (by rw [h2])⟩
