/-! the class: the Reader reads as the reference does -/
theorem dg_10 {c : Int32} (h : dgP c) : c = 48 ∨ c = 49 ∨ c = 50 ∨ c = 51 ∨ c = 52 ∨ c = 53 ∨ c = 54 ∨ c = 55 ∨ c = 56 ∨ c = 57 := by
  obtain ⟨j, hj, e⟩ := inb_of (k := 10) (by omega) h
  have e2 : c = nI j + 48 := by rw [← e, Int32.sub_add_cancel]
  rw [e2]
  match j, hj with
  | 0, _ => decide
  | 1, _ => decide
  | 2, _ => decide
  | 3, _ => decide
  | 4, _ => decide
  | 5, _ => decide
  | 6, _ => decide
  | 7, _ => decide
  | 8, _ => decide
  | 9, _ => decide
  | j + 10, hj => exact absurd hj (by omega)
theorem ix1_d : ∀ c : Int32, c = 48 ∨ c = 49 ∨ c = 50 ∨ c = 51 ∨ c = 52 ∨ c = 53 ∨ c = 54 ∨ c = 55 ∨ c = 56 ∨ c = 57 → dgP c ∧ ixA 1 c = c - 48 ∧ ¬ ixA 1 c < 0 := by
  intro c h
  rcases h with rfl | rfl | rfl | rfl | rfl | rfl | rfl | rfl | rfl | rfl <;> exact ⟨by unfold dgP; decide, by decide, by decide⟩
theorem ix1 (c : Int32) : (dgP c ∧ ixA 1 c = c - 48 ∧ ¬ ixA 1 c < 0) ∨ (¬ dgP c ∧ ixA 1 c = -1) := by
  by_cases h : dgP c
  · exact Or.inl (ix1_d c (dg_10 h))
  · refine Or.inr ⟨h, ?_⟩
    have ne : ∀ d : Int32, (d = 48 ∨ d = 49 ∨ d = 50 ∨ d = 51 ∨ d = 52 ∨ d = 53 ∨ d = 54 ∨ d = 55 ∨ d = 56 ∨ d = 57) → ¬ d = c := fun d hd e => h (e ▸ (ix1_d d hd).1)
    show ixF c [48, 49, 50, 51, 52, 53, 54, 55, 56, 57] 0 = -1
    rw [ixF, if_neg (ne _ (by decide)), ixF, if_neg (ne _ (by decide)), ixF, if_neg (ne _ (by decide)), ixF, if_neg (ne _ (by decide)), ixF, if_neg (ne _ (by decide)), ixF, if_neg (ne _ (by decide)), ixF, if_neg (ne _ (by decide)), ixF, if_neg (ne _ (by decide)), ixF, if_neg (ne _ (by decide)), ixF, if_neg (ne _ (by decide)), ixF]
theorem ix4 (c : Int32) : (c = 44 ∧ ixA 4 c = 0) ∨ (¬ c = 44 ∧ ixA 4 c = -1) := by
  by_cases h : c = 44
  · exact Or.inl ⟨h, by rw [h]; decide⟩
  · exact Or.inr ⟨h, by show ixF c [44] 0 = -1; rw [ixF, if_neg (fun z => h z.symm), ixF]⟩
theorem ix5 (c : Int32) : (c = 59 ∧ ixA 5 c = 0) ∨ (¬ c = 59 ∧ ixA 5 c = -1) := by
  by_cases h : c = 59
  · exact Or.inl ⟨h, by rw [h]; decide⟩
  · exact Or.inr ⟨h, by show ixF c [59] 0 = -1; rw [ixF, if_neg (fun z => h z.symm), ixF]⟩
theorem ix3 (c : Int32) : (c = 104 ∧ ixA 3 c = 0) ∨ (c = 98 ∧ ixA 3 c = 1) ∨ (¬ (c = 98 ∨ c = 104) ∧ ixA 3 c = -1) := by
  by_cases h : c = 104
  · exact Or.inl ⟨h, by rw [h]; decide⟩
  by_cases h2 : c = 98
  · exact Or.inr (Or.inl ⟨h2, by rw [h2]; decide⟩)
  · exact Or.inr (Or.inr ⟨fun z => z.elim h2 h, by show ixF c [104, 98] 0 = -1; rw [ixF, if_neg (fun z => h z.symm), ixF, if_neg (fun z => h2 z.symm), ixF]⟩)
theorem ix0 (c : Int32) : (c = 104 ∧ ixA 0 c = 0) ∨ (c = 98 ∧ ixA 0 c = 1) ∨ (c = 102 ∧ ixA 0 c = 2) ∨ ((¬ c = 98 ∧ ¬ c = 102 ∧ ¬ c = 104) ∧ ixA 0 c = -1) := by
  by_cases h : c = 104
  · exact Or.inl ⟨h, by rw [h]; decide⟩
  by_cases h2 : c = 98
  · exact Or.inr (Or.inl ⟨h2, by rw [h2]; decide⟩)
  by_cases h3 : c = 102
  · exact Or.inr (Or.inr (Or.inl ⟨h3, by rw [h3]; decide⟩))
  · exact Or.inr (Or.inr (Or.inr ⟨⟨h2, h3, h⟩, by show ixF c [104, 98, 102] 0 = -1; rw [ixF, if_neg (fun z => h z.symm), ixF, if_neg (fun z => h2 z.symm), ixF, if_neg (fun z => h3 z.symm), ixF]⟩))
theorem ix2_d : ∀ c : Int32, c = 112 ∨ c = 97 ∨ c = 111 ∨ c = 101 ∨ c = 120 ∨ c = 110 → 0 ≤ kdF c ∧ ixA 2 c = kdF c ∧ ¬ ixA 2 c < 0 := by
  intro c h
  rcases h with rfl | rfl | rfl | rfl | rfl | rfl <;> decide
theorem ix2 (c : Int32) : (0 ≤ kdF c ∧ ixA 2 c = kdF c ∧ ¬ ixA 2 c < 0) ∨ (¬ 0 ≤ kdF c ∧ ixA 2 c = -1) := by
  rcases swK c with h | h | h | h | h | h | ⟨h1, h2, h3, h4, h5, h6⟩
  · exact Or.inl (ix2_d c (Or.inr (Or.inl h)))
  · exact Or.inl (ix2_d c (Or.inr (Or.inr (Or.inr (Or.inl h)))))
  · exact Or.inl (ix2_d c (Or.inr (Or.inr (Or.inr (Or.inr (Or.inr h))))))
  · exact Or.inl (ix2_d c (Or.inr (Or.inr (Or.inl h))))
  · exact Or.inl (ix2_d c (Or.inl h))
  · exact Or.inl (ix2_d c (Or.inr (Or.inr (Or.inr (Or.inr (Or.inl h))))))
  · refine Or.inr ⟨by rw [kdF_d ⟨h1, h2, h3, h4, h5, h6⟩]; decide, ?_⟩
    show ixF c [112, 97, 111, 101, 120, 110] 0 = -1
    rw [ixF, if_neg (fun z => h5 z.symm), ixF, if_neg (fun z => h1 z.symm), ixF, if_neg (fun z => h4 z.symm), ixF, if_neg (fun z => h2 z.symm), ixF, if_neg (fun z => h6 z.symm), ixF, if_neg (fun z => h3 z.symm), ixF]
theorem ixN : ∀ k, k < 6 → ixA k (-1) = -1 := by decide
section RDX
variable {L : Nat → Int32} {n : Nat}
theorem nx_s {k i : Nat} (hk : k < 6) : nxF L n k (False, i) = ixA k (sgF L n i) := by
  unfold nxF sgF
  by_cases h : i < n
  · rw [cI_t (show gP n (False, i) from ⟨fun z => z, h⟩), if_pos h]
  · rw [cI_f (fun z => h z.2), if_neg h, ixN k hk]
theorem nx_x {k i : Nat} : nxF L n k (True, i) = -1 := cI_f (fun z => z.1 trivial)
theorem o_t {k i : Nat} (hk : k < 6) (h : ¬ ixA k (sgF L n i) < 0) : oF L n k (False, i) = (False, i + 1) ∧ oV L n k (False, i) = ixA k (sgF L n i) := by
  unfold oF oV
  rw [nx_s hk, cI_f h, cI_f h]
  exact ⟨rfl, rfl⟩
theorem o_f {k i : Nat} (hk : k < 6) (h : ixA k (sgF L n i) = -1) : oF L n k (False, i) = (True, i) ∧ oV L n k (False, i) = 0 := by
  unfold oF oV
  rw [nx_s hk, h, cI_t (by decide), cI_t (by decide)]
  exact ⟨rfl, rfl⟩
theorem o_x {k i : Nat} : oF L n k (True, i) = (True, i) ∧ oV L n k (True, i) = 0 := by
  unfold oF oV
  rw [nx_x, cI_t (by decide), cI_t (by decide)]
  exact ⟨rfl, rfl⟩
theorem t_x {i : Nat} : tF L n (True, i) = (True, i) := by
  unfold tF
  rw [o_x.1, nx_x, cI_t (by decide)]
theorem m_x {i : Nat} : mF L n (True, i) = (True, i) := by
  unfold mF
  rw [o_x.1, o_x.1]
theorem pg_e {g : Pg} (h : g.1) : ((False, g.2) : Pg) = (¬ g.1, g.2) := by rw [show (¬ g.1) = False from propext ⟨fun z => z h, fun z => z.elim⟩]
theorem pg_n {g : Pg} (h : ¬ g.1) : ((True, g.2) : Pg) = (¬ g.1, g.2) := by rw [show (¬ g.1) = True from propext ⟨fun _ => trivial, fun _ => h⟩]
theorem rT4 (i : Nat) : oF L n 4 (False, i) = (¬ (gT L n 44 i).1, (gT L n 44 i).2) := by
  rcases ix4 (sgF L n i) with ⟨h, e⟩ | ⟨h, e⟩
  · rw [(o_t (k := 4) (by decide) (by rw [e]; decide)).1, gT_t h]; exact pg_e (g := (sgF L n i = 44, i + 1)) h
  · rw [(o_f (k := 4) (by decide) e).1, gT_f h]; exact pg_n (g := (sgF L n i = 44, i)) h
theorem rT5 (i : Nat) : oF L n 5 (False, i) = (¬ (gT L n 59 i).1, (gT L n 59 i).2) := by
  rcases ix5 (sgF L n i) with ⟨h, e⟩ | ⟨h, e⟩
  · rw [(o_t (k := 5) (by decide) (by rw [e]; decide)).1, gT_t h]; exact pg_e (g := (sgF L n i = 59, i + 1)) h
  · rw [(o_f (k := 5) (by decide) e).1, gT_f h]; exact pg_n (g := (sgF L n i = 59, i)) h
theorem rdC1_t {i : Nat} (h : dgP (sgF L n i)) : rdC L n i 1 = 1 := cI_t ⟨rfl, h⟩
theorem rdC1_f {i : Nat} (h : ¬ dgP (sgF L n i)) : rdC L n i 1 = 0 := cI_f (fun z => h z.2)
theorem rdV1 {i : Nat} : rdV L n i 1 = sgF L n i - 48 := by
  show 10 * 0 + sgF L n (i + 0) - 48 = _
  rw [Int32.mul_zero, Int32.zero_add]; rfl
theorem rN1 (i : Nat) : oF L n 1 (False, i) = (¬ (gN L n 1 i).1, (gN L n 1 i).2) ∧ ((gN L n 1 i).1 → oV L n 1 (False, i) = rdV L n i (rdC L n i 1)) := by
  unfold gN
  rcases ix1 (sgF L n i) with ⟨h, e, e2⟩ | ⟨h, e⟩
  · obtain ⟨a, b⟩ := o_t (k := 1) (i := i) (by decide) e2
    rw [a, b, rdC1_t h]
    exact ⟨pg_e (g := (0 < 1, i + 1)) Nat.zero_lt_one, fun _ => by rw [rdV1, e]⟩
  · rw [(o_f (k := 1) (by decide) e).1, rdC1_f h]
    exact ⟨pg_n (g := (0 < 0, i + 0)) (Nat.lt_irrefl 0), fun z => absurd z (Nat.lt_irrefl 0)⟩
theorem num2 (x y : Int32) : (x - 48) * 10 + (y - 48) = 10 * (x - 48) + y - 48 := by
  rw [Int32.mul_comm, Int32.sub_eq_add_neg y, Int32.sub_eq_add_neg (10 * (x - 48) + y), Int32.add_assoc]
theorem rN2 (i : Nat) : tF L n (False, i) = (¬ (gN L n 2 i).1, (gN L n 2 i).2) ∧ ((gN L n 2 i).1 → tV L n (False, i) = rdV L n i (rdC L n i 2)) := by
  unfold gN tF tV
  rcases ix1 (sgF L n i) with ⟨h, e, e2⟩ | ⟨h, e⟩
  · obtain ⟨a, b⟩ := o_t (k := 1) (i := i) (by decide) e2
    rw [a, b]
    rcases ix1 (sgF L n (i + 1)) with ⟨g, f, f2⟩ | ⟨g, f⟩
    · obtain ⟨a1, b1⟩ := o_t (k := 1) (i := i + 1) (by decide) f2
      have c2 : rdC L n i 2 = 2 := cI_t ⟨rdC1_t h, g⟩
      rw [a1, b1, nx_s (by decide), cI_f f2, cI_f f2, c2]
      refine ⟨pg_e (g := (0 < 2, i + 2)) (show (0 : Nat) < 2 by decide), fun _ => ?_⟩
      rw [e, f]
      show _ = 10 * rdV L n i 1 + sgF L n (i + 1) - 48
      rw [rdV1, num2]
    · have c2 : rdC L n i 2 = 1 := by rw [rdC, cI_f (fun z => g z.2), rdC1_t h]
      rw [nx_s (by decide), f, cI_t (by decide), cI_t (by decide), c2]
      exact ⟨pg_e (g := (0 < 1, i + 1)) Nat.zero_lt_one, fun _ => by rw [rdV1, e]⟩
  · have c1 := rdC1_f h
    have c2 : rdC L n i 2 = 0 := by rw [rdC, cI_f (fun z => by rw [c1] at z; exact absurd z.1 (by decide)), c1]
    rw [(o_f (k := 1) (by decide) e).1, nx_x, cI_t (by decide), c2]
    exact ⟨pg_n (g := (0 < 0, i + 0)) (Nat.lt_irrefl 0), fun z => absurd z (Nat.lt_irrefl 0)⟩
theorem rK (i : Nat) : oF L n 2 (False, i) = (¬ (gK L n i).1, (gK L n i).2) ∧ ((gK L n i).1 → oV L n 2 (False, i) = kdF (sgF L n i)) := by
  rcases ix2 (sgF L n i) with ⟨h, e, e2⟩ | ⟨h, e⟩
  · obtain ⟨a, b⟩ := o_t (k := 2) (i := i) (by decide) e2
    rw [a, b, gK_t h]
    exact ⟨pg_e (g := (0 ≤ kdF (sgF L n i), i + 1)) h, fun _ => e⟩
  · rw [(o_f (k := 2) (by decide) e).1, gK_f h]
    exact ⟨pg_n (g := (0 ≤ kdF (sgF L n i), i)) h, fun z => absurd z h⟩
theorem rM (i : Nat) : mF L n (False, i) = (¬ (gM L n i).1, (gM L n i).2) ∧ ((gM L n i).1 → ∀ (k : Nat) (T : Nat → Int32), tM L n k i T = upd (upd T k (rdV L n (i + 1) (rdC L n (i + 1) 1))) k (mV L n (False, i))) := by
  unfold mF mV
  rcases ix3 (sgF L n i) with ⟨h, e⟩ | ⟨h, e⟩ | ⟨h, e⟩
  · obtain ⟨a, b⟩ := o_t (k := 3) (i := i) (by decide) (by rw [e]; decide)
    rw [a, b, e, gM_t (Or.inr h), (rN1 (i + 1)).1]
    refine ⟨rfl, fun z k T => ?_⟩
    rw [tM_t (Or.inr h), cI_t z, if_neg (by rw [h]; decide), (rN1 (i + 1)).2 z, tN, pk_us, Int32.add_zero, Int32.zero_mul, Int32.zero_add]
  · obtain ⟨a, b⟩ := o_t (k := 3) (i := i) (by decide) (by rw [e]; decide)
    rw [a, b, e, gM_t (Or.inl h), (rN1 (i + 1)).1]
    refine ⟨rfl, fun z k T => ?_⟩
    rw [tM_t (Or.inl h), cI_t z, if_pos h, (rN1 (i + 1)).2 z, tN, pk_us, Int32.one_mul, Int32.add_comm]
  · obtain ⟨a, b⟩ := o_f (k := 3) (i := i) (by decide) e
    rw [a, gM_f h, o_x.1]
    exact ⟨pg_n (g := (False, i)) (fun z => z), fun z => z.elim⟩
theorem b_st {f : Pg → Pg} {g g' : Pg} {a : Pg} (ha : a = (¬ g.1, g.2)) (hg : g.1 → f (False, g.2) = (¬ g'.1, g'.2)) (hx : ∀ i, f (True, i) = (True, i)) : (g.1 → f a = (¬ g'.1, g'.2)) ∧ (¬ g.1 → f a = (True, g.2)) := by
  refine ⟨fun h => ?_, fun h => ?_⟩
  · rw [ha, ← pg_e h]; exact hg h
  · rw [ha, ← pg_n h]; exact hx _
end RDX
