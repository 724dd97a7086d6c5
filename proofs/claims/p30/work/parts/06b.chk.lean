def q_len (i : Instr) : Nat := match i with
  | .bipush _ => 2
  | .sipush _ => 3
  | .iload _ => 2
  | .lload _ => 2
  | .fload _ => 2
  | .dload _ => 2
  | .aload _ => 2
  | .istore _ => 2
  | .lstore _ => 2
  | .fstore _ => 2
  | .dstore _ => 2
  | .astore _ => 2
  | .getfield _ => 3
  | .putfield _ => 3
  | .iinc _ _ => 3
  | .newarray _ => 2
  | .anewarray _ => 3
  | .multianewarray _ _ => 4
  | _ => 1
def q_isfl (oc idx a b : Nat) : Bool := q_fl.any (fun q => q.1 == oc && (q.2.1 == idx && (q.2.2.1 == a && q.2.2.2.1 == b)))
def q_isnw (oc idx a : Nat) : Bool := q_nw.any (fun q => q.1 == oc && (q.2.1 == idx && q.2.2.1 == a))
def q_isiv (oc idx a c : Nat) : Bool := q_iv.any (fun q => q.1 == oc && (q.2.1 == idx && (q.2.2.1 == a && q.2.2.2.1 == c)))
def q_isct (oc idx a : Nat) : Bool := q_ct.any (fun q => q.1 == oc && (q.2.1 == idx && q.2.2.1 == a))
def q_isth (j pc e : Nat) : Bool := q_th.any (fun q => q.1.1 == j && (q.1.2 == pc && q.2.1.1 == e))
def q_bud (j a : Nat) : Bool := decide (q_fr a + 1 ≤ q_fr j) && decide (8 + (q_mL a + 11) + q_lo a ≤ q_lo j)
def q_chk (j pc : Nat) (x : qX) : Bool := match x with
  | (i, len, a, b, c) => decide (decode (q_b j) pc = .ok (i, len)) && (match i with
    | .getfield idx => decide (len = 3) && ((decide (c = 0) && q_isfl (q_oc j) idx a b) || (decide (c = 1) && decide ((q_oc j, idx, a, b) ∈ q_fn)))
    | .putfield idx => decide (len = 3) && ((decide (c = 0) && (q_isfl (q_oc j) idx a b && decide ((q_T a b).2.2.2 = false))) || ((decide (c = 1) && (decide ((q_oc j, idx, a, b) ∈ q_fn) && decide ((q_T a b).2.2.2 = false))) || (decide (c = 2) && (q_isfl (q_oc j) idx a b && (decide ((q_T a b).2.2.2 = true) && (decide ((q_y j).name = "<init>") && decide ((q_T a b).1 = q_rn (q_oc j))))))))
    | .new idx => decide (len = 3) && ((decide (a < 10) && q_isnw (q_oc j) idx a) || (decide (1000 ≤ a) && q_isth j pc (a - 1000)))
    | .invokevirtual idx => decide (len = 3) && (q_isiv (q_oc j) idx a c && (decide (c = 0) && (decide (b = q_np a + 1) && q_bud j a)))
    | .invokestatic idx => decide (len = 3) && (q_isiv (q_oc j) idx a c && ((decide (c = 2 ∨ c = 3) && (decide (b = q_np a) && q_bud j a)) || (decide (c = 7) && (decide (b = 2) && (decide (1 ≤ q_fr j) && decide (21 ≤ q_lo j))))))
    | .invokespecial idx => decide (len = 3) && (q_isiv (q_oc j) idx a c && ((decide (c = 4 ∨ c = 5) && (decide (b = q_np a + 1) && q_bud j a)) || (decide (c = 6) && (decide (b = 1) && (decide (1 ≤ q_fr j) && decide (20 ≤ q_lo j))))))
    | .ldc idx => decide (len = 2) && q_isct (q_oc j) idx a
    | .ldc_w idx => decide (len = 3) && q_isct (q_oc j) idx a
    | .goto o => decide (len = 3) && decide ((pc : Int) + o = (a : Int))
    | .ifCond _ o => decide (len = 3) && decide ((pc : Int) + o = (a : Int))
    | .if_icmp _ o => decide (len = 3) && decide ((pc : Int) + o = (a : Int))
    | .anewarray idx => decide (len = 3) && q_wat a (.classLink (q_rn (q_oc j)) idx "[I")
    | .multianewarray idx d => decide (len = 4) && (decide (d = 2) && q_wat a (.classLink (q_rn (q_oc j)) idx "[[I"))
    | .tableswitch _ _ _ _ => true
    | i => decide (len = q_len i))
theorem q_v0 : (q_c0.all (fun q => q_chk 0 q.1 q.2)) = true := by decide +kernel
theorem q_v1 : (q_c1.all (fun q => q_chk 1 q.1 q.2)) = true := by decide +kernel
theorem q_v2 : (q_c2.all (fun q => q_chk 2 q.1 q.2)) = true := by decide +kernel
theorem q_v3 : (q_c3.all (fun q => q_chk 3 q.1 q.2)) = true := by decide +kernel
theorem q_v4 : (q_c4.all (fun q => q_chk 4 q.1 q.2)) = true := by decide +kernel
theorem q_v5 : (q_c5.all (fun q => q_chk 5 q.1 q.2)) = true := by decide +kernel
theorem q_v6 : (q_c6.all (fun q => q_chk 6 q.1 q.2)) = true := by decide +kernel
theorem q_v7 : (q_c7.all (fun q => q_chk 7 q.1 q.2)) = true := by decide +kernel
theorem q_v8 : (q_c8.all (fun q => q_chk 8 q.1 q.2)) = true := by decide +kernel
theorem q_v9 : (q_c9.all (fun q => q_chk 9 q.1 q.2)) = true := by decide +kernel
theorem q_v10 : (q_c10.all (fun q => q_chk 10 q.1 q.2)) = true := by decide +kernel
theorem q_v11 : (q_c11.all (fun q => q_chk 11 q.1 q.2)) = true := by decide +kernel
theorem q_v12 : (q_c12.all (fun q => q_chk 12 q.1 q.2)) = true := by decide +kernel
theorem q_v13 : (q_c13.all (fun q => q_chk 13 q.1 q.2)) = true := by decide +kernel
theorem q_v14 : (q_c14.all (fun q => q_chk 14 q.1 q.2)) = true := by decide +kernel
theorem q_v15 : (q_c15.all (fun q => q_chk 15 q.1 q.2)) = true := by decide +kernel
theorem q_v16 : (q_c16.all (fun q => q_chk 16 q.1 q.2)) = true := by decide +kernel
theorem q_v17 : (q_c17.all (fun q => q_chk 17 q.1 q.2)) = true := by decide +kernel
theorem q_v18 : (q_c18.all (fun q => q_chk 18 q.1 q.2)) = true := by decide +kernel
theorem q_v19 : (q_c19.all (fun q => q_chk 19 q.1 q.2)) = true := by decide +kernel
theorem q_v20 : (q_c20.all (fun q => q_chk 20 q.1 q.2)) = true := by decide +kernel
theorem q_v21 : (q_c21.all (fun q => q_chk 21 q.1 q.2)) = true := by decide +kernel
theorem q_v22 : (q_c22.all (fun q => q_chk 22 q.1 q.2)) = true := by decide +kernel
theorem q_v23 : (q_c23.all (fun q => q_chk 23 q.1 q.2)) = true := by decide +kernel
theorem q_v24 : (q_c24.all (fun q => q_chk 24 q.1 q.2)) = true := by decide +kernel
theorem q_v25 : (q_c25.all (fun q => q_chk 25 q.1 q.2)) = true := by decide +kernel
theorem q_v26 : (q_c26.all (fun q => q_chk 26 q.1 q.2)) = true := by decide +kernel
theorem q_v27 : (q_c27.all (fun q => q_chk 27 q.1 q.2)) = true := by decide +kernel
theorem q_v28 : (q_c28.all (fun q => q_chk 28 q.1 q.2)) = true := by decide +kernel
theorem q_v29 : (q_c29.all (fun q => q_chk 29 q.1 q.2)) = true := by decide +kernel
theorem q_v30 : (q_c30.all (fun q => q_chk 30 q.1 q.2)) = true := by decide +kernel
theorem q_v31 : (q_c31.all (fun q => q_chk 31 q.1 q.2)) = true := by decide +kernel
theorem q_v32 : (q_c32.all (fun q => q_chk 32 q.1 q.2)) = true := by decide +kernel
theorem q_v33 : (q_c33.all (fun q => q_chk 33 q.1 q.2)) = true := by decide +kernel
theorem q_v34 : (q_c34.all (fun q => q_chk 34 q.1 q.2)) = true := by decide +kernel
theorem q_v35 : (q_c35.all (fun q => q_chk 35 q.1 q.2)) = true := by decide +kernel
theorem q_v36 : (q_c36.all (fun q => q_chk 36 q.1 q.2)) = true := by decide +kernel
theorem q_v37 : (q_c37.all (fun q => q_chk 37 q.1 q.2)) = true := by decide +kernel
theorem q_v38 : (q_c38.all (fun q => q_chk 38 q.1 q.2)) = true := by decide +kernel
theorem q_v39 : (q_c39.all (fun q => q_chk 39 q.1 q.2)) = true := by decide +kernel
theorem q_v40 : (q_c40.all (fun q => q_chk 40 q.1 q.2)) = true := by decide +kernel
theorem q_v41 : (q_c41.all (fun q => q_chk 41 q.1 q.2)) = true := by decide +kernel
theorem q_v42 : (q_c42.all (fun q => q_chk 42 q.1 q.2)) = true := by decide +kernel
theorem q_v43 : (q_c43.all (fun q => q_chk 43 q.1 q.2)) = true := by decide +kernel
theorem q_v44 : (q_c44.all (fun q => q_chk 44 q.1 q.2)) = true := by decide +kernel
theorem q_v45 : (q_c45.all (fun q => q_chk 45 q.1 q.2)) = true := by decide +kernel
theorem q_v46 : (q_c46.all (fun q => q_chk 46 q.1 q.2)) = true := by decide +kernel
theorem q_v47 : (q_c47.all (fun q => q_chk 47 q.1 q.2)) = true := by decide +kernel
theorem q_v48 : (q_c48.all (fun q => q_chk 48 q.1 q.2)) = true := by decide +kernel
theorem q_v49 : (q_c49.all (fun q => q_chk 49 q.1 q.2)) = true := by decide +kernel
theorem q_v50 : (q_c50.all (fun q => q_chk 50 q.1 q.2)) = true := by decide +kernel
theorem q_v51 : (q_c51.all (fun q => q_chk 51 q.1 q.2)) = true := by decide +kernel
theorem q_v52 : (q_c52.all (fun q => q_chk 52 q.1 q.2)) = true := by decide +kernel
theorem q_v53 : (q_c53.all (fun q => q_chk 53 q.1 q.2)) = true := by decide +kernel
theorem q_v54 : (q_c54.all (fun q => q_chk 54 q.1 q.2)) = true := by decide +kernel
theorem q_v55 : (q_c55.all (fun q => q_chk 55 q.1 q.2)) = true := by decide +kernel
theorem q_v56 : (q_c56.all (fun q => q_chk 56 q.1 q.2)) = true := by decide +kernel
theorem q_v57 : (q_c57.all (fun q => q_chk 57 q.1 q.2)) = true := by decide +kernel
theorem q_v58 : (q_c58.all (fun q => q_chk 58 q.1 q.2)) = true := by decide +kernel
theorem q_v59 : (q_c59.all (fun q => q_chk 59 q.1 q.2)) = true := by decide +kernel
theorem q_v60 : (q_c60.all (fun q => q_chk 60 q.1 q.2)) = true := by decide +kernel
theorem q_v61 : (q_c61.all (fun q => q_chk 61 q.1 q.2)) = true := by decide +kernel
theorem q_v62 : (q_c62.all (fun q => q_chk 62 q.1 q.2)) = true := by decide +kernel
theorem q_v63 : (q_c63.all (fun q => q_chk 63 q.1 q.2)) = true := by decide +kernel
theorem q_v64 : (q_c64.all (fun q => q_chk 64 q.1 q.2)) = true := by decide +kernel
theorem q_v65 : (q_c65.all (fun q => q_chk 65 q.1 q.2)) = true := by decide +kernel
theorem q_v66 : (q_c66.all (fun q => q_chk 66 q.1 q.2)) = true := by decide +kernel
theorem q_v67 : (q_c67.all (fun q => q_chk 67 q.1 q.2)) = true := by decide +kernel
theorem q_v68 : (q_c68.all (fun q => q_chk 68 q.1 q.2)) = true := by decide +kernel
theorem q_v69 : (q_c69.all (fun q => q_chk 69 q.1 q.2)) = true := by decide +kernel
theorem q_v70 : (q_c70.all (fun q => q_chk 70 q.1 q.2)) = true := by decide +kernel
theorem q_v71 : (q_c71.all (fun q => q_chk 71 q.1 q.2)) = true := by decide +kernel
theorem q_v72 : (q_c72.all (fun q => q_chk 72 q.1 q.2)) = true := by decide +kernel
theorem q_v73 : (q_c73.all (fun q => q_chk 73 q.1 q.2)) = true := by decide +kernel
theorem q_v74 : (q_c74.all (fun q => q_chk 74 q.1 q.2)) = true := by decide +kernel
theorem q_v75 : (q_c75.all (fun q => q_chk 75 q.1 q.2)) = true := by decide +kernel
theorem q_v76 : (q_c76.all (fun q => q_chk 76 q.1 q.2)) = true := by decide +kernel
theorem q_v77 : (q_c77.all (fun q => q_chk 77 q.1 q.2)) = true := by decide +kernel
theorem q_v78 : (q_c78.all (fun q => q_chk 78 q.1 q.2)) = true := by decide +kernel
theorem q_v79 : (q_c79.all (fun q => q_chk 79 q.1 q.2)) = true := by decide +kernel
theorem q_v80 : (q_c80.all (fun q => q_chk 80 q.1 q.2)) = true := by decide +kernel
theorem q_v81 : (q_c81.all (fun q => q_chk 81 q.1 q.2)) = true := by decide +kernel
theorem q_v82 : (q_c82.all (fun q => q_chk 82 q.1 q.2)) = true := by decide +kernel
theorem q_v83 : (q_c83.all (fun q => q_chk 83 q.1 q.2)) = true := by decide +kernel
theorem q_v84 : (q_c84.all (fun q => q_chk 84 q.1 q.2)) = true := by decide +kernel
theorem q_v85 : (q_c85.all (fun q => q_chk 85 q.1 q.2)) = true := by decide +kernel
theorem q_v86 : (q_c86.all (fun q => q_chk 86 q.1 q.2)) = true := by decide +kernel
theorem q_v87 : (q_c87.all (fun q => q_chk 87 q.1 q.2)) = true := by decide +kernel
theorem q_v88 : (q_c88.all (fun q => q_chk 88 q.1 q.2)) = true := by decide +kernel
theorem q_v89 : (q_c89.all (fun q => q_chk 89 q.1 q.2)) = true := by decide +kernel
theorem q_v90 : (q_c90.all (fun q => q_chk 90 q.1 q.2)) = true := by decide +kernel
theorem q_v91 : (q_c91.all (fun q => q_chk 91 q.1 q.2)) = true := by decide +kernel
theorem q_v92 : (q_c92.all (fun q => q_chk 92 q.1 q.2)) = true := by decide +kernel
theorem q_v93 : (q_c93.all (fun q => q_chk 93 q.1 q.2)) = true := by decide +kernel
theorem q_v94 : (q_c94.all (fun q => q_chk 94 q.1 q.2)) = true := by decide +kernel
theorem q_v95 : (q_c95.all (fun q => q_chk 95 q.1 q.2)) = true := by decide +kernel
theorem q_v96 : (q_c96.all (fun q => q_chk 96 q.1 q.2)) = true := by decide +kernel
theorem q_v97 : (q_c97.all (fun q => q_chk 97 q.1 q.2)) = true := by decide +kernel
theorem q_v98 : (q_c98.all (fun q => q_chk 98 q.1 q.2)) = true := by decide +kernel
theorem q_v99 : (q_c99.all (fun q => q_chk 99 q.1 q.2)) = true := by decide +kernel
theorem q_v100 : (q_c100.all (fun q => q_chk 100 q.1 q.2)) = true := by decide +kernel
theorem q_v101 : (q_c101.all (fun q => q_chk 101 q.1 q.2)) = true := by decide +kernel
theorem q_v102 : (q_c102.all (fun q => q_chk 102 q.1 q.2)) = true := by decide +kernel
theorem q_v103 : (q_c103.all (fun q => q_chk 103 q.1 q.2)) = true := by decide +kernel
theorem q_v104_0 : (q_c104_0.all (fun q => q_chk 104 q.1 q.2)) = true := by decide +kernel
theorem q_v104_1 : (q_c104_1.all (fun q => q_chk 104 q.1 q.2)) = true := by decide +kernel
theorem q_v104_2 : (q_c104_2.all (fun q => q_chk 104 q.1 q.2)) = true := by decide +kernel
theorem q_v104_3 : (q_c104_3.all (fun q => q_chk 104 q.1 q.2)) = true := by decide +kernel
theorem q_v104 : (q_c104.all (fun q => q_chk 104 q.1 q.2)) = true := by
  unfold q_c104
  simp only [List.all_append, Bool.and_eq_true]
  exact ⟨q_v104_0, q_v104_1, q_v104_2, q_v104_3⟩
theorem q_v105 : (q_c105.all (fun q => q_chk 105 q.1 q.2)) = true := by decide +kernel
theorem q_v106 : (q_c106.all (fun q => q_chk 106 q.1 q.2)) = true := by decide +kernel
theorem q_v107 : (q_c107.all (fun q => q_chk 107 q.1 q.2)) = true := by decide +kernel
theorem q_v108 : (q_c108.all (fun q => q_chk 108 q.1 q.2)) = true := by decide +kernel
theorem q_v109_0 : (q_c109_0.all (fun q => q_chk 109 q.1 q.2)) = true := by decide +kernel
theorem q_v109_1 : (q_c109_1.all (fun q => q_chk 109 q.1 q.2)) = true := by decide +kernel
theorem q_v109_2 : (q_c109_2.all (fun q => q_chk 109 q.1 q.2)) = true := by decide +kernel
theorem q_v109_3 : (q_c109_3.all (fun q => q_chk 109 q.1 q.2)) = true := by decide +kernel
theorem q_v109 : (q_c109.all (fun q => q_chk 109 q.1 q.2)) = true := by
  unfold q_c109
  simp only [List.all_append, Bool.and_eq_true]
  exact ⟨q_v109_0, q_v109_1, q_v109_2, q_v109_3⟩
theorem q_v110 : (q_c110.all (fun q => q_chk 110 q.1 q.2)) = true := by decide +kernel
theorem q_codes_len : q_codes.length = 111 := by decide +kernel
theorem q_vs0 : ∀ i, i < 20 → ((q_codes.getD (0 + i) []).all (fun q => q_chk (0 + i) q.1 q.2)) = true := by
  intro i h
  match i, h with
  | 0, _ => exact q_v0
  | 1, _ => exact q_v1
  | 2, _ => exact q_v2
  | 3, _ => exact q_v3
  | 4, _ => exact q_v4
  | 5, _ => exact q_v5
  | 6, _ => exact q_v6
  | 7, _ => exact q_v7
  | 8, _ => exact q_v8
  | 9, _ => exact q_v9
  | 10, _ => exact q_v10
  | 11, _ => exact q_v11
  | 12, _ => exact q_v12
  | 13, _ => exact q_v13
  | 14, _ => exact q_v14
  | 15, _ => exact q_v15
  | 16, _ => exact q_v16
  | 17, _ => exact q_v17
  | 18, _ => exact q_v18
  | 19, _ => exact q_v19
  | i + 20, h => exact absurd h (by omega)
theorem q_vs20 : ∀ i, i < 20 → ((q_codes.getD (20 + i) []).all (fun q => q_chk (20 + i) q.1 q.2)) = true := by
  intro i h
  match i, h with
  | 0, _ => exact q_v20
  | 1, _ => exact q_v21
  | 2, _ => exact q_v22
  | 3, _ => exact q_v23
  | 4, _ => exact q_v24
  | 5, _ => exact q_v25
  | 6, _ => exact q_v26
  | 7, _ => exact q_v27
  | 8, _ => exact q_v28
  | 9, _ => exact q_v29
  | 10, _ => exact q_v30
  | 11, _ => exact q_v31
  | 12, _ => exact q_v32
  | 13, _ => exact q_v33
  | 14, _ => exact q_v34
  | 15, _ => exact q_v35
  | 16, _ => exact q_v36
  | 17, _ => exact q_v37
  | 18, _ => exact q_v38
  | 19, _ => exact q_v39
  | i + 20, h => exact absurd h (by omega)
theorem q_vs40 : ∀ i, i < 20 → ((q_codes.getD (40 + i) []).all (fun q => q_chk (40 + i) q.1 q.2)) = true := by
  intro i h
  match i, h with
  | 0, _ => exact q_v40
  | 1, _ => exact q_v41
  | 2, _ => exact q_v42
  | 3, _ => exact q_v43
  | 4, _ => exact q_v44
  | 5, _ => exact q_v45
  | 6, _ => exact q_v46
  | 7, _ => exact q_v47
  | 8, _ => exact q_v48
  | 9, _ => exact q_v49
  | 10, _ => exact q_v50
  | 11, _ => exact q_v51
  | 12, _ => exact q_v52
  | 13, _ => exact q_v53
  | 14, _ => exact q_v54
  | 15, _ => exact q_v55
  | 16, _ => exact q_v56
  | 17, _ => exact q_v57
  | 18, _ => exact q_v58
  | 19, _ => exact q_v59
  | i + 20, h => exact absurd h (by omega)
theorem q_vs60 : ∀ i, i < 20 → ((q_codes.getD (60 + i) []).all (fun q => q_chk (60 + i) q.1 q.2)) = true := by
  intro i h
  match i, h with
  | 0, _ => exact q_v60
  | 1, _ => exact q_v61
  | 2, _ => exact q_v62
  | 3, _ => exact q_v63
  | 4, _ => exact q_v64
  | 5, _ => exact q_v65
  | 6, _ => exact q_v66
  | 7, _ => exact q_v67
  | 8, _ => exact q_v68
  | 9, _ => exact q_v69
  | 10, _ => exact q_v70
  | 11, _ => exact q_v71
  | 12, _ => exact q_v72
  | 13, _ => exact q_v73
  | 14, _ => exact q_v74
  | 15, _ => exact q_v75
  | 16, _ => exact q_v76
  | 17, _ => exact q_v77
  | 18, _ => exact q_v78
  | 19, _ => exact q_v79
  | i + 20, h => exact absurd h (by omega)
theorem q_vs80 : ∀ i, i < 20 → ((q_codes.getD (80 + i) []).all (fun q => q_chk (80 + i) q.1 q.2)) = true := by
  intro i h
  match i, h with
  | 0, _ => exact q_v80
  | 1, _ => exact q_v81
  | 2, _ => exact q_v82
  | 3, _ => exact q_v83
  | 4, _ => exact q_v84
  | 5, _ => exact q_v85
  | 6, _ => exact q_v86
  | 7, _ => exact q_v87
  | 8, _ => exact q_v88
  | 9, _ => exact q_v89
  | 10, _ => exact q_v90
  | 11, _ => exact q_v91
  | 12, _ => exact q_v92
  | 13, _ => exact q_v93
  | 14, _ => exact q_v94
  | 15, _ => exact q_v95
  | 16, _ => exact q_v96
  | 17, _ => exact q_v97
  | 18, _ => exact q_v98
  | 19, _ => exact q_v99
  | i + 20, h => exact absurd h (by omega)
theorem q_vs100 : ∀ i, i < 11 → ((q_codes.getD (100 + i) []).all (fun q => q_chk (100 + i) q.1 q.2)) = true := by
  intro i h
  match i, h with
  | 0, _ => exact q_v100
  | 1, _ => exact q_v101
  | 2, _ => exact q_v102
  | 3, _ => exact q_v103
  | 4, _ => exact q_v104
  | 5, _ => exact q_v105
  | 6, _ => exact q_v106
  | 7, _ => exact q_v107
  | 8, _ => exact q_v108
  | 9, _ => exact q_v109
  | 10, _ => exact q_v110
  | i + 11, h => exact absurd h (by omega)
theorem q_ok {j pc : Nat} {x : qX} (h : q_code j pc = some x) : q_chk j pc x = true ∧ j < 111 := by
  have hj : j < 111 := by
    rcases Nat.lt_or_ge j 111 with q | q
    · exact q
    · unfold q_code at h
      rw [List.getD_eq_getElem?_getD, List.getElem?_eq_none (by rw [q_codes_len]; exact q)] at h
      cases h
  refine ⟨?_, hj⟩
  have hm : (pc, x) ∈ q_codes.getD j [] := by
    unfold q_code at h
    generalize q_codes.getD j [] = l at h
    induction l with
    | nil => cases h
    | cons a l ih =>
      obtain ⟨a1, a2⟩ := a
      rw [List.lookup_cons] at h
      by_cases hp : pc = a1
      · subst hp
        simp at h
        subst h
        exact List.mem_cons_self
      · have : (pc == a1) = false := by simpa using hp
        rw [this] at h
        exact List.mem_cons_of_mem _ (ih h)
  have key : ((q_codes.getD j []).all (fun q => q_chk j q.1 q.2)) = true := by
    rcases (show (0 ≤ j ∧ j < 20) ∨ (20 ≤ j ∧ j < 40) ∨ (40 ≤ j ∧ j < 60) ∨ (60 ≤ j ∧ j < 80) ∨ (80 ≤ j ∧ j < 100) ∨ (100 ≤ j ∧ j < 111) by omega) with q | q | q | q | q | q
    · have := q_vs0 (j - 0) (by omega)
      rwa [show 0 + (j - 0) = j by omega] at this
    · have := q_vs20 (j - 20) (by omega)
      rwa [show 20 + (j - 20) = j by omega] at this
    · have := q_vs40 (j - 40) (by omega)
      rwa [show 40 + (j - 40) = j by omega] at this
    · have := q_vs60 (j - 60) (by omega)
      rwa [show 60 + (j - 60) = j by omega] at this
    · have := q_vs80 (j - 80) (by omega)
      rwa [show 80 + (j - 80) = j by omega] at this
    · have := q_vs100 (j - 100) (by omega)
      rwa [show 100 + (j - 100) = j by omega] at this
  exact List.all_eq_true.mp key (pc, x) hm
def q_NC : List (String × String) := []
def q_cc : List (Nat × Nat × String) := [(84, 831, "java/util/NoSuchElementException")]
theorem q_cc_ok : (q_cc.all (fun q => q_wat q.2.1 (.classLink (q_rn 11) q.1 q.2.2))) = true := by decide +kernel
def q_cn (c : Nat) : String := ((q_cc.find? (fun q => q.1 == c)).map (fun q => q.2.2)).getD ""
/-- where a throw e at a call's pc is caught: the row's place in the table -/
def q_hi (j pc e : Nat) : Nat := match (q_hh j).findIdx? (fun z => q_cn z.2.2.2 == q_x e) with
  | some i => i
  | none => 0
def q_hnB (q : (Nat × Nat × Nat) × Nat × Nat) : Bool := match q with
  | ((j, pc, e), h, p) => decide (e < 5) && (decide (q_oc j = 11) && (match (q_hh j)[q_hi j pc e]? with
    | some z => decide (z.1 ≤ pc) && (decide (pc < z.2.1) && (decide (z.2.2.2 ≠ 0) && (decide (z.2.2.2 ∈ q_cc.map (fun q => q.1)) && (decide (q_cn z.2.2.2 = q_x e) && ((decide (p < 4) && (decide (h = z.2.2.1 + 1) && decide (decode (q_b j) z.2.2.1 = .ok (.astore_n (Fin.ofNat 4 p), 1)))) || (decide (h = z.2.2.1 + 2) && decide (decode (q_b j) z.2.2.1 = .ok (.astore p, 2))))))))
    | none => false) && ((q_hh j).take (q_hi j pc e)).all (fun z => decide (z.2.2.2 ≠ 0) && (decide (z.2.2.2 ∈ q_cc.map (fun q => q.1)) && decide ((q_x e, q_cn z.2.2.2) ∈ q_NC))))
theorem q_hn_ok : (q_hn.all q_hnB) = true := by decide +kernel
