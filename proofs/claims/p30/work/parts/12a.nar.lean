/-! the mathematics of narrowing: the greatest set of tiles for each cell out of which none can be taken -/
def Sb (a b : Nat) : Prop := ∀ u, a.testBit u = true → b.testBit u = true
theorem Sb.refl (a : Nat) : Sb a a := fun _ h => h
theorem Sb.trans {a b c : Nat} (h : Sb a b) (h' : Sb b c) : Sb a c := fun u q => h' u (h u q)
theorem Sb.and_l (a b : Nat) : Sb (a &&& b) a := fun u h => by
  rw [Nat.testBit_and, Bool.and_eq_true] at h
  exact h.1
theorem Sb.and_r (a b : Nat) : Sb (a &&& b) b := fun u h => by
  rw [Nat.testBit_and, Bool.and_eq_true] at h
  exact h.2
theorem Sb.and {a b c : Nat} (h : Sb a b) (h' : Sb a c) : Sb a (b &&& c) := fun u q => by
  rw [Nat.testBit_and, h u q, h' u q]
  rfl
theorem Sb.eq {a b : Nat} (h : Sb a b) (h' : Sb b a) : a = b := by
  apply Nat.eq_of_testBit_eq
  intro i
  rw [Bool.eq_iff_iff]
  exact ⟨h i, h' i⟩
theorem Sb.of_and {a b : Nat} (h : a &&& b = a) : Sb a b := by
  have := Sb.and_r a b
  rw [h] at this
  exact this
theorem Sb.cnt {a b : Nat} (ha : a < 256) (hb : b < 256) (h : Sb a b) : cnt a ≤ cnt b ∧ (a ≠ b → cnt a < cnt b) := by
  refine cnt_mono ha hb ?_
  exact (Sb.and_l a b).eq ((Sb.refl a).and h)
def SubN (N : Nat) (p q : Nat → Nat) : Prop := ∀ k, k < N → Sb (p k) (q k)
theorem SubN.trans {N : Nat} {p q r : Nat → Nat} (h : SubN N p q) (h' : SubN N q r) : SubN N p r := fun k hk => (h k hk).trans (h' k hk)
def Stab (T : TS) (w h : Nat) (p : Nat → Nat) : Prop := ∀ k d k2, k < w * h → d < 4 → nb w h k d = some k2 → Sb (p k2) (fitM T (p k) d)
theorem fitM_mono {T : TS} {a b d : Nat} (h : Sb a b) : Sb (fitM T a d) (fitM T b d) := by
  intro u hu
  rw [fitM_bit] at hu ⊢
  obtain ⟨h1, t, h2, h3, h4⟩ := hu
  exact ⟨h1, t, h2, h t h3, h4⟩
/-- p is out of p0, and keeps all that is stable in it -/
def Keeps (T : TS) (w h : Nat) (p0 p : Nat → Nat) : Prop := SubN (w * h) p p0 ∧ ∀ S, Stab T w h S → SubN (w * h) S p0 → SubN (w * h) S p
def IsNar (T : TS) (w h : Nat) (p0 p : Nat → Nat) : Prop := Keeps T w h p0 p ∧ Stab T w h p
def Msk (N : Nat) (p : Nat → Nat) : Prop := ∀ k, k < N → p k < 256
theorem Keeps.refl {T : TS} {w h : Nat} {p : Nat → Nat} : Keeps T w h p p := ⟨fun k _ => Sb.refl _, fun _ _ h => h⟩
theorem Keeps.trans {T : TS} {w h : Nat} {p q r : Nat → Nat} (h1 : Keeps T w h p q) (h2 : Keeps T w h q r) : Keeps T w h p r :=
  ⟨h2.1.trans h1.1, fun S hS hp => h2.2 S hS (h1.2 S hS hp)⟩
theorem IsNar.uniq {T : TS} {w h : Nat} {p q r : Nat → Nat} (h1 : IsNar T w h p q) (h2 : IsNar T w h p r) : ∀ k, k < w * h → q k = r k := fun k hk =>
  (h2.1.2 q h1.2 h1.1.1 k hk).eq (h1.1.2 r h2.2 h2.1.1 k hk)
noncomputable def cB (p : Prop) : Bool := @decide p (Classical.propDecidable p)
theorem cB_iff {p : Prop} : cB p = true ↔ p := @decide_eq_true_iff p (Classical.propDecidable p)
noncomputable def narF (T : TS) (w h : Nat) (p : Nat → Nat) (k : Nat) : Nat := mk (fun u => cB (∃ S, Stab T w h S ∧ SubN (w * h) S p ∧ (S k).testBit u = true)) 8
theorem narF_lt {T : TS} {w h : Nat} {p : Nat → Nat} {k : Nat} : narF T w h p k < 256 := mk_lt _ 8
theorem IsNar.eq {T : TS} {w h : Nat} {p q : Nat → Nat} (h1 : IsNar T w h p q) (hm : Msk (w * h) p) : ∀ k, k < w * h → q k = narF T w h p k := by
  intro k hk
  apply Nat.eq_of_testBit_eq
  intro u
  rw [Bool.eq_iff_iff]
  unfold narF
  rw [mk_bit, Bool.and_eq_true, decide_eq_true_eq, cB_iff]
  constructor
  · intro q1
    exact ⟨bit_lt (hm k hk) (h1.1.1 k hk u q1), q, h1.2, h1.1.1, q1⟩
  · rintro ⟨_, S, a, b, c⟩
    exact h1.1.2 S a b k hk u c
theorem narF_c {T : TS} {w h : Nat} {p p' : Nat → Nat} (hp : ∀ k, k < w * h → p k = p' k) : narF T w h p = narF T w h p' := by
  have e : ∀ S, SubN (w * h) S p ↔ SubN (w * h) S p' := by
    intro S
    constructor
    · intro q k hk
      rw [← hp k hk]
      exact q k hk
    · intro q k hk
      rw [hp k hk]
      exact q k hk
  funext k
  unfold narF
  have e2 : (fun u => cB (∃ S, Stab T w h S ∧ SubN (w * h) S p ∧ (S k).testBit u = true)) = (fun u => cB (∃ S, Stab T w h S ∧ SubN (w * h) S p' ∧ (S k).testBit u = true)) := by
    funext u
    have e3 : (∃ S, Stab T w h S ∧ SubN (w * h) S p ∧ (S k).testBit u = true) = (∃ S, Stab T w h S ∧ SubN (w * h) S p' ∧ (S k).testBit u = true) := propext (exists_congr (fun S => and_congr_right (fun _ => and_congr_left (fun _ => e S))))
    rw [e3]
  rw [e2]
/-- where the neighbours lie -/
theorem nb_sym {w h k d k2 : Nat} (hk : k < w * h) (hd : d < 4) (hn : nb w h k d = some k2) : nb w h k2 (op d) = some k := by
  have hw : 0 < w := Nat.pos_of_ne_zero (fun q => by subst q; simp at hk)
  have e := Nat.div_add_mod k w
  have hm := Nat.mod_lt k hw
  have hq : k / w < h := Nat.div_lt_of_lt_mul hk
  have hd4 : d = 0 ∨ d = 1 ∨ d = 2 ∨ d = 3 := by omega
  rcases hd4 with rfl | rfl | rfl | rfl
  · simp only [nb, if_true] at hn
    split at hn
    · rename_i h1
      cases hn
      have hle : w ≤ k := by
        rcases Nat.lt_or_ge k w with q | q
        · rw [Nat.div_eq_of_lt q] at h1
          omega
        · exact q
      have e2 : (k - w) / w = k / w - 1 := by
        have := Nat.sub_mul_div k w 1
        rw [Nat.mul_one] at this
        exact this
      simp only [nb, op, show (0 + 2) % 4 = 2 from rfl, show ¬ 2 = 0 by decide, show ¬ 2 = 1 by decide, if_false, if_true, e2]
      rw [if_pos (by omega), Nat.sub_add_cancel hle]
    · cases hn
  · simp only [nb, show ¬ 1 = 0 by decide, if_false, if_true] at hn
    split at hn
    · rename_i h1
      cases hn
      have e2 : (k + 1) % w = k % w + 1 := by
        rw [← e, Nat.add_assoc, Nat.mul_add_mod, Nat.mul_add_mod]
        rw [Nat.mod_eq_of_lt h1, Nat.mod_eq_of_lt (Nat.mod_lt _ hw)]
      simp only [nb, op, show (1 + 2) % 4 = 3 from rfl, show ¬ 3 = 0 by decide, show ¬ 3 = 1 by decide, show ¬ 3 = 2 by decide, if_false, e2]
      rw [if_pos (by omega)]
      rfl
    · cases hn
  · simp only [nb, show ¬ 2 = 0 by decide, show ¬ 2 = 1 by decide, if_false, if_true] at hn
    split at hn
    · rename_i h1
      cases hn
      have e2 : (k + w) / w = k / w + 1 := Nat.add_div_right k hw
      unfold nb
      rw [if_pos (show op 2 = 0 from rfl), e2, if_pos (Nat.succ_pos _), Nat.add_sub_cancel]
    · cases hn
  · simp only [nb, show ¬ 3 = 0 by decide, show ¬ 3 = 1 by decide, show ¬ 3 = 2 by decide, if_false] at hn
    split at hn
    · rename_i h1
      cases hn
      have e2 : (k - 1) % w = k % w - 1 := by
        have e3 : k - 1 = w * (k / w) + (k % w - 1) := by omega
        rw [e3, Nat.mul_add_mod, Nat.mod_eq_of_lt (by omega)]
      simp only [nb, op, show (3 + 2) % 4 = 1 from rfl, show ¬ 1 = 0 by decide, if_false, if_true, e2]
      rw [if_pos (by omega)]
      congr 1
      omega
    · cases hn
def fu (p : Nat → Nat) (k v : Nat) : Nat → Nat := fun i => if i = k then v else p i
theorem fu_s {p : Nat → Nat} {k v : Nat} : fu p k v k = v := if_pos rfl
theorem fu_n {p : Nat → Nat} {k v i : Nat} (h : i ≠ k) : fu p k v i = p i := if_neg h
theorem fu_id {p : Nat → Nat} {k : Nat} : fu p k (p k) = p := by
  funext i
  unfold fu
  split
  · rename_i q; rw [q]
  · rfl
/-- how many tiles in all -/
def tot (p : Nat → Nat) : Nat → Nat
  | 0 => 0
  | n + 1 => tot p n + cnt (p n)
theorem tot_le {p : Nat → Nat} : ∀ {n : Nat}, Msk n p → tot p n ≤ 8 * n
  | 0, _ => Nat.le_refl _
  | n + 1, h => by
    have h1 := tot_le (n := n) (fun k hk => h k (by omega))
    have h2 := cnt_le (p n) (h n (by omega))
    unfold tot
    omega
theorem tot_c {p q : Nat → Nat} : ∀ {n : Nat}, (∀ k, k < n → p k = q k) → tot p n = tot q n
  | 0, _ => rfl
  | n + 1, h => by
    unfold tot
    rw [tot_c (n := n) (fun k hk => h k (by omega)), h n (by omega)]
theorem tot_fu {p : Nat → Nat} {k v : Nat} : ∀ {n : Nat}, k < n → tot (fu p k v) n + cnt (p k) = tot p n + cnt v
  | 0, h => absurd h (by omega)
  | n + 1, h => by
    unfold tot
    by_cases q : k = n
    · subst q
      rw [fu_s, tot_c (n := k) (q := p) (fun i hi => fu_n (by omega))]
      omega
    · have := tot_fu (p := p) (k := k) (v := v) (n := n) (by omega)
      rw [fu_n (by omega)]
      omega
theorem Msk_fu {N k v : Nat} {p : Nat → Nat} (h : Msk N p) (hv : v < 256) : Msk N (fu p k v) := by
  intro i hi
  unfold fu
  split
  · exact hv
  · exact h i hi
/-- taking out of a cell what doesn't fit beside another keeps what is stable -/
theorem keeps_arc {T : TS} {w h k d k2 : Nat} {p0 p : Nat → Nat} (hk : Keeps T w h p0 p) (h1 : k < w * h) (hd : d < 4) (hn : nb w h k d = some k2) {a : Nat} (ha : Sb a (p k2)) (ha2 : ∀ u, (p k2).testBit u = true → (fitM T (p k) d).testBit u = true → a.testBit u = true) : Keeps T w h p0 (fu p k2 a) := by
  refine ⟨fun i hi => ?_, fun S hS hp i hi => ?_⟩
  · by_cases q : i = k2
    · subst q
      rw [fu_s]
      exact ha.trans (hk.1 i hi)
    · rw [fu_n q]
      exact hk.1 i hi
  · have hSp := hk.2 S hS hp
    by_cases q : i = k2
    · subst q
      rw [fu_s]
      intro u hu
      exact ha2 u (hSp i hi u hu) (fitM_mono (hSp k h1) u (hS k d i h1 hd hn u hu))
    · rw [fu_n q]
      exact hSp i hi
