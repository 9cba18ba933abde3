/-! the class: a bet and a statement are read as the reference does -/
section RDY
variable {L : Nat → Int32} {n : Nat}
theorem pg_i {a g : Pg} (h : a = (¬ g.1, g.2)) (hg : g.1) : a = (False, g.2) := h.trans (pg_e hg).symm
theorem pg_j {a g : Pg} (h : a = (¬ g.1, g.2)) (hg : ¬ g.1) : a = (True, g.2) := h.trans (pg_n hg).symm
theorem oFx {k : Nat} : ∀ i, oF L n k (True, i) = (True, i) := fun _ => o_x.1
theorem tFx : ∀ i, tF L n (True, i) = (True, i) := fun _ => t_x
theorem mFx : ∀ i, mF L n (True, i) = (True, i) := fun _ => m_x
theorem b_all (i : Nat) : b8 L n (False, i) = (¬ (c98 L n i).1, (c98 L n i).2) ∧ ((c98 L n i).1 → ((u1 L n i).1 ∧ (u2 L n i).1 ∧ (u3 L n i).1 ∧ (u4 L n i).1 ∧ (u5 L n i).1 ∧ (u6 L n i).1 ∧ (u7 L n i).1 ∧ (u8 L n i).1) ∧ b1 L n (False, i) = (False, (u1 L n i).2) ∧ b2 L n (False, i) = (False, (u2 L n i).2) ∧ b3 L n (False, i) = (False, (u3 L n i).2) ∧ b4 L n (False, i) = (False, (u4 L n i).2) ∧ b5 L n (False, i) = (False, (u5 L n i).2) ∧ b6 L n (False, i) = (False, (u6 L n i).2) ∧ b7 L n (False, i) = (False, (u7 L n i).2)) := by
  have e1 : b1 L n (False, i) = (¬ (u1 L n i).1, (u1 L n i).2) := (rK i).1
  unfold c98 h98
  by_cases q1 : (u1 L n i).1
  · have f1 := pg_i e1 q1
    have e2 : b2 L n (False, i) = (¬ (u2 L n i).1, (u2 L n i).2) := by rw [b2, f1]; exact (rM _).1
    rw [cI_t q1]
    by_cases q2 : (u2 L n i).1
    · have f2 := pg_i e2 q2
      have e3 : b3 L n (False, i) = (¬ (u3 L n i).1, (u3 L n i).2) := by rw [b3, f2]; exact (rM _).1
      rw [cI_t q2]
      by_cases q3 : (u3 L n i).1
      · have f3 := pg_i e3 q3
        have e4 : b4 L n (False, i) = (¬ (u4 L n i).1, (u4 L n i).2) := by rw [b4, f3]; exact (rN2 _).1
        rw [cI_t q3]
        by_cases q4 : (u4 L n i).1
        · have f4 := pg_i e4 q4
          have e5 : b5 L n (False, i) = (¬ (u5 L n i).1, (u5 L n i).2) := by rw [b5, f4]; exact rT4 _
          rw [cI_t q4]
          by_cases q5 : (u5 L n i).1
          · have f5 := pg_i e5 q5
            have e6 : b6 L n (False, i) = (¬ (u6 L n i).1, (u6 L n i).2) := by rw [b6, f5]; exact (rN1 _).1
            rw [cI_t q5]
            by_cases q6 : (u6 L n i).1
            · have f6 := pg_i e6 q6
              have e7 : b7 L n (False, i) = (¬ (u7 L n i).1, (u7 L n i).2) := by rw [b7, f6]; exact (rN1 _).1
              rw [cI_t q6]
              by_cases q7 : (u7 L n i).1
              · have f7 := pg_i e7 q7
                have e8 : b8 L n (False, i) = (¬ (u8 L n i).1, (u8 L n i).2) := by rw [b8, f7]; exact (rN1 _).1
                rw [cI_t q7]
                exact ⟨e8, fun z => ⟨⟨q1, q2, q3, q4, q5, q6, q7, z⟩, f1, f2, f3, f4, f5, f6, f7⟩⟩
              · rw [cI_f q7]
                have f7 := pg_j e7 q7
                exact ⟨by rw [b8, f7, oFx]; exact pg_n q7, fun z => absurd z q7⟩
            · rw [cI_f q6]
              have f6 := pg_j e6 q6
              exact ⟨by rw [b8, b7, f6, oFx, oFx]; exact pg_n q6, fun z => absurd z q6⟩
          · rw [cI_f q5]
            have f5 := pg_j e5 q5
            exact ⟨by rw [b8, b7, b6, f5, oFx, oFx, oFx]; exact pg_n q5, fun z => absurd z q5⟩
        · rw [cI_f q4]
          have f4 := pg_j e4 q4
          exact ⟨by rw [b8, b7, b6, b5, f4, oFx, oFx, oFx, oFx]; exact pg_n q4, fun z => absurd z q4⟩
      · rw [cI_f q3]
        have f3 := pg_j e3 q3
        exact ⟨by rw [b8, b7, b6, b5, b4, f3, tFx, oFx, oFx, oFx, oFx]; exact pg_n q3, fun z => absurd z q3⟩
    · rw [cI_f q2]
      have f2 := pg_j e2 q2
      exact ⟨by rw [b8, b7, b6, b5, b4, b3, f2, mFx, tFx, oFx, oFx, oFx, oFx]; exact pg_n q2, fun z => absurd z q2⟩
  · rw [cI_f q1]
    have f1 := pg_j e1 q1
    exact ⟨by rw [b8, b7, b6, b5, b4, b3, b2, f1, mFx, mFx, tFx, oFx, oFx, oFx, oFx]; exact pg_n q1, fun z => absurd z q1⟩
theorem b_num {i : Nat} (h : (c98 L n i).1) (T N : Nat → Int32) : ∀ j, j < 7 → t98 L n i T j = bT L n (False, i) N j := by
  obtain ⟨⟨q1, q2, q3, q4, q5, q6, q7, q8⟩, f1, f2, f3, f4, f5, f6, f7⟩ := (b_all i).2 h
  have et : t98 L n i T = v8 L n i T := by unfold t98 h98; rw [cI_t q1, cI_t q2, cI_t q3, cI_t q4, cI_t q5, cI_t q6, cI_t q7]
  have o0 : oV L n 2 (False, i) = kdF (sgF L n i) := (rK i).2 q1
  have m1 := (rM (n := n) (L := L) (u1 L n i).2).2 q2 1 (v1 L n i T)
  have m2 := (rM (n := n) (L := L) (u2 L n i).2).2 q3 2 (v2 L n i T)
  have o3 : tV L n (False, (u3 L n i).2) = _ := (rN2 (u3 L n i).2).2 q4
  have o4 : oV L n 1 (False, (u5 L n i).2) = _ := (rN1 (u5 L n i).2).2 q6
  have o5 : oV L n 1 (False, (u6 L n i).2) = _ := (rN1 (u6 L n i).2).2 q7
  have o6 : oV L n 1 (False, (u7 L n i).2) = _ := (rN1 (u7 L n i).2).2 q8
  rw [et]
  unfold bT
  rw [f1, f2, f3, f5, f6, f7, o0, o3, o4, o5, o6]
  have g2 : v2 L n i T = _ := m1
  have g3 : v3 L n i T = _ := m2
  intro j hj
  unfold v8 v7 v6 v4 tN
  rw [g3, g2, v1, tK]
  unfold upd
  match j, hj with
  | 0, _ => rfl
  | 1, _ => rfl
  | 2, _ => rfl
  | 3, _ => rfl
  | 4, _ => rfl
  | 5, _ => rfl
  | 6, _ => rfl
  | j + 7, hj => exact absurd hj (by omega)
theorem f_all (i : Nat) : fF L n (False, i) = (¬ (c102 L n i).1, (c102 L n i).2) ∧ ((c102 L n i).1 → ∀ T N : Nat → Int32, t102 L n i T 0 = fT L n (False, i) N 0 ∧ t102 L n i T 1 = fT L n (False, i) N 1) := by
  have e1 : oF L n 1 (False, i) = (¬ (w1 L n i).1, (w1 L n i).2) := (rN1 i).1
  unfold fF c102 t102 h102
  by_cases q1 : (w1 L n i).1
  · have f1 := pg_i e1 q1
    have e2 : oF L n 4 (False, (w1 L n i).2) = (¬ (w2 L n i).1, (w2 L n i).2) := rT4 _
    rw [cI_t q1, f1]
    by_cases q2 : (w2 L n i).1
    · have f2 := pg_i e2 q2
      have e3 : tF L n (False, (w2 L n i).2) = (¬ (w3 L n i).1, (w3 L n i).2) := (rN2 _).1
      rw [cI_t q2, f2]
      refine ⟨e3, fun z T N => ?_⟩
      rw [cI_t q1, cI_t q2, fT, f1, f2, (rN1 i).2 q1, (rN2 (w2 L n i).2).2 z, x3, x1, tN, tN]
      exact ⟨rfl, rfl⟩
    · rw [cI_f q2]
      have f2 := pg_j e2 q2
      exact ⟨by rw [f2, tFx]; exact pg_n q2, fun z => absurd z q2⟩
  · rw [cI_f q1]
    have f1 := pg_j e1 q1
    exact ⟨by rw [f1, oFx, tFx]; exact pg_n q1, fun z => absurd z q1⟩
/-- what was read last, as far as the statement looks at it -/
def AG (c : Int32) (T N : Nat → Int32) : Prop := (c = 104 ∧ T 0 = N 0) ∨ (c = 98 ∧ ∀ j, j < 7 → T j = N j) ∨ (c = 102 ∧ T 0 = N 0 ∧ T 1 = N 1)
theorem fin_r {f : Pg → Pg} {a g : Pg} (h : a = (¬ g.1, g.2)) : oF L n 5 a = (¬ (fin L n g).1, (fin L n g).2) := by
  by_cases q : g.1
  · rw [fin_t q, pg_i h q]; exact rT5 _
  · rw [fin_f q, pg_j h q, oFx]; exact pg_n q
theorem s_all (i : Nat) : sF L n (False, i) = (¬ (gS L n i).1, (gS L n i).2) ∧ ((gS L n i).1 → ((oV L n 0 (False, i) = 0 ∧ sgF L n i = 104) ∨ (oV L n 0 (False, i) = 1 ∧ sgF L n i = 98) ∨ (oV L n 0 (False, i) = 2 ∧ sgF L n i = 102)) ∧ (∀ T N : Nat → Int32, AG (sgF L n i) (tS L n i T) (sT L n (False, i) N)) ∧ (sgF L n i = 98 → ∀ T : Nat → Int32, 0 ≤ kdF (sgF L n (i + 1)) ∧ tS L n i T 0 = kdF (sgF L n (i + 1)))) := by
  rcases ix0 (sgF L n i) with ⟨h, e⟩ | ⟨h, e⟩ | ⟨h, e⟩ | ⟨h, e⟩
  · obtain ⟨a, b⟩ := o_t (k := 0) (i := i) (by decide) (by rw [e]; decide)
    rw [e] at b
    rw [sF, sB_0 b, a, gS_h h]
    refine ⟨fin_r (f := id) (rN2 _).1, fun z => ⟨Or.inl ⟨b, h⟩, fun T N => Or.inl ⟨h, ?_⟩, fun y => absurd (h.symm.trans y) (by decide)⟩⟩
    have q : (gN L n 2 (i + 1)).1 := by
      by_cases q : (gN L n 2 (i + 1)).1
      · exact q
      · rw [fin_f q] at z; exact z
    rw [tS_h h, sT_0 b, a, (rN2 (i + 1)).2 q]; rfl
  · obtain ⟨a, b⟩ := o_t (k := 0) (i := i) (by decide) (by rw [e]; decide)
    rw [e] at b
    rw [sF, sB_1 b, a, gS_b h]
    have hq : (fin L n (c98 L n (i + 1))).1 → (c98 L n (i + 1)).1 := by
      intro z
      by_cases q : (c98 L n (i + 1)).1
      · exact q
      · rw [fin_f q] at z; exact z
    refine ⟨fin_r (f := id) (b_all _).1, fun z => ⟨Or.inr (Or.inl ⟨b, h⟩), fun T N => Or.inr (Or.inl ⟨h, ?_⟩), fun _ T => ?_⟩⟩
    · rw [tS_b h, sT_1 b, a]
      exact b_num (hq z) T N
    · have k := (b_all (L := L) (n := n) (i + 1)).2 (hq z)
      rw [tS_b h, b_num (hq z) T T 0 (by decide)]
      refine ⟨k.1.1, ?_⟩
      show oV L n 2 (False, i + 1) = _
      exact (rK (i + 1)).2 k.1.1
  · obtain ⟨a, b⟩ := o_t (k := 0) (i := i) (by decide) (by rw [e]; decide)
    rw [e] at b
    have n0 : ¬ oV L n 0 (False, i) = 0 := by rw [b]; decide
    have n1 : ¬ oV L n 0 (False, i) = 1 := by rw [b]; decide
    rw [sF, sB_2 n0 n1, a, gS_f h]
    refine ⟨fin_r (f := id) (f_all _).1, fun z => ⟨Or.inr (Or.inr ⟨b, h⟩), fun T N => Or.inr (Or.inr ⟨h, ?_⟩), fun y => absurd (h.symm.trans y) (by decide)⟩⟩
    have q : (c102 L n (i + 1)).1 := by
      by_cases q : (c102 L n (i + 1)).1
      · exact q
      · rw [fin_f q] at z; exact z
    rw [tS_f h, sT_2 n0 n1, a]
    exact (f_all (i + 1)).2 q T N
  · obtain ⟨a, b⟩ := o_f (k := 0) (i := i) (by decide) e
    rw [sF, sB_0 b, a, gS_d h, tFx, oFx]
    exact ⟨pg_n (g := (False, i)) (fun z => z), fun z => z.elim⟩
end RDY
theorem ag_P {β : Bk} {c : Int32} {T N : Nat → Int32} (h : AG c T N) : cmP β T c ↔ cmP β N c := by
  rcases h with ⟨rfl, h⟩ | ⟨rfl, h⟩ | ⟨rfl, h0, h1⟩
  · rw [cmP_h rfl, cmP_h rfl, h]
  · rw [cmP_b rfl, cmP_b rfl]
    unfold cbP
    rw [h 1 (by decide), h 2 (by decide), h 3 (by decide), h 5 (by decide), h 6 (by decide)]
  · rw [cmP_d (by decide), cmP_d (by decide), h0]
theorem ag_c {f : Nat → Int32} {o : Nat} {T N : Nat → Int32} (h : ∀ j, j < 7 → T j = N j) : cpB f o T 7 = cpB f o N 7 := by
  have key : ∀ i, i ≤ 7 → cpB f o T i = cpB f o N i := by
    intro i
    induction i with
    | zero => intro _; rfl
    | succ i ih => intro hi; rw [cpB, cpB, ih (by omega), h i (by omega)]
  exact key 7 (Nat.le_refl _)
theorem ag_B {β : Bk} {c : Int32} {T N : Nat → Int32} (h : AG c T N) : cmB β T c = cmB β N c := by
  rcases h with ⟨rfl, h⟩ | ⟨rfl, h⟩ | ⟨rfl, h0, h1⟩
  · rw [cmB_h rfl, cmB_h rfl, h]
  · rw [cmB_b rfl, cmB_b rfl, ag_c h]
  · rw [cmB_d (by decide), cmB_d (by decide), h0, h1]
/-- kinds stay kinds -/
theorem kd_6 : ∀ c : Int32, 0 ≤ kdF c → kdF c = 0 ∨ kdF c = 1 ∨ kdF c = 2 ∨ kdF c = 3 ∨ kdF c = 4 ∨ kdF c = 5 := by
  intro c h
  rcases swK c with e | e | e | e | e | e | e
  · subst e; decide
  · subst e; decide
  · subst e; decide
  · subst e; decide
  · subst e; decide
  · subst e; decide
  · rw [kdF_d e] at h; exact absurd h (by decide)
theorem cpB_at {f : Nat → Int32} {o : Nat} {T : Nat → Int32} {j : Nat} : ∀ i, j < i → cpB f o T i (o + j) = T j := by
  intro i
  induction i with
  | zero => intro h; exact absurd h (Nat.not_lt_zero _)
  | succ i ih =>
    intro h
    rw [cpB]
    by_cases e : j = i
    · subst e; exact pk_us
    · rw [pk_un (by omega)]; exact ih (by omega)
theorem kd_cm {β : Bk} {c : Int32} {T : Nat → Int32} (hk : KD (bN β) (bK β)) (h : c = 98 → T 0 = 0 ∨ T 0 = 1 ∨ T 0 = 2 ∨ T 0 = 3 ∨ T 0 = 4 ∨ T 0 = 5) : KD (bN (cmB β T c)) (bK (cmB β T c)) := by
  by_cases q1 : c = 104
  · rw [cmB_h q1]; exact hk
  by_cases q2 : c = 98
  · rw [cmB_b q2]
    intro j hj
    have hj : j < bK β + 1 := hj
    by_cases e : j = bK β
    · have v : bN ((bH β, bK β + 1), bC β, cpB (bN β) (7 * bK β) T 7, bF β) (7 * j + 0) = T 0 := by rw [e]; exact cpB_at 7 (by decide)
      rw [v]; exact h q2
    · have v : bN ((bH β, bK β + 1), bC β, cpB (bN β) (7 * bK β) T 7, bF β) (7 * j + 0) = bN β (7 * j + 0) := cpB_lo (by omega) 7
      rw [v]; exact hk j (by omega)
  · rw [cmB_d ⟨q2, q1⟩]; exact hk
/-- the first reading's place -/
theorem fp_st {L : Nat → Int32} {n m i : Nat} : fpS L n m (True, i) = (True, i) := fpS_f (fun z => z.1 trivial)
theorem gS_nl {L : Nat → Int32} {n i : Nat} (h : n ≤ i) : ¬ (gS L n i).1 := by
  have e : sgF L n i = -1 := if_neg (by omega)
  rw [gS_d (by rw [e]; decide)]
  exact fun z => z
theorem fp_rd {L : Nat → Int32} {n : Nat} : ∀ (f i c m : Nat) (T : Nat → Int32), i ≤ n → n - i < f → n - i ≤ m + 1 → ((rd1 L n f i c T).1 = none ∧ ¬ (fpS L n m (sF L n (False, i))).1) ∨ (∃ pl, pl ≤ n ∧ (rd1 L n f i c T).1 = some pl ∧ fpS L n m (sF L n (False, i)) = (True, pl)) := by
  intro f
  induction f with
  | zero => intro i c m T _ h; exact absurd h (Nat.not_lt_zero _)
  | succ f ih =>
    intro i c m T hi hf hm
    have s := (s_all (L := L) (n := n) i).1
    have gl := gS_le (L := L) hi
    by_cases q : (gS L n i).1
    · have s1 := pg_i s q
      have gt := gS_gt q
      rw [rd1_s, cI_t q, s1]
      by_cases q2 : (gS L n i).2 < n
      · rw [if_pos q2]
        obtain ⟨m', rfl⟩ : ∃ m', m = m' + 1 := ⟨m - 1, by omega⟩
        have e : fpS L n (m' + 1) (False, (gS L n i).2) = fpS L n m' (sF L n (False, (gS L n i).2)) := cI_t ⟨fun z => z, q2⟩
        rw [e]
        exact ih _ _ m' _ gl (by omega) (by omega)
      · rw [if_neg q2]
        exact Or.inl ⟨rfl, by rw [show fpS L n m (False, (gS L n i).2) = (False, (gS L n i).2) from fpS_f (fun z => q2 z.2)]; exact fun z => z⟩
    · have s1 := pg_j s q
      rw [rd1_s, cI_f q, s1, fp_st]
      exact Or.inr ⟨_, gl, rfl, rfl⟩
theorem fp_cs {L : Nat → Int32} {n : Nat} (hn : n ≤ 80) (T : Nat → Int32) : (∃ pl, pl ≤ n ∧ (rd1 L n (n + 1) 0 0 T).1 = some pl ∧ fpV L n = nI pl) ∨ ((rd1 L n (n + 1) 0 0 T).1 = none ∧ fpV L n = -9) := by
  unfold fpV fpA
  rcases fp_rd (L := L) (n := n) (n + 1) 0 0 79 T (by omega) (by omega) (by omega) with ⟨h1, h2⟩ | ⟨pl, h0, h1, h2⟩
  · exact Or.inr ⟨h1, cI_f h2⟩
  · exact Or.inl ⟨pl, h0, h1, by rw [h2]; exact cI_t trivial⟩
/-- how many statements -/
noncomputable def stN (L : Nat → Int32) (n : Nat) : Nat → Nat → Nat
  | 0, _ => 0
  | f + 1, i => if i < n then 1 + stN L n f (gS L n i).2 else 0
theorem stN_e {L : Nat → Int32} {n i : Nat} (h : ¬ i < n) : ∀ f, stN L n f i = 0 := by
  intro f
  cases f with
  | zero => rfl
  | succ f => exact if_neg h
theorem rd1_n {L : Nat → Int32} {n : Nat} : ∀ (f i c : Nat) (T : Nat → Int32), (rd1 L n f i c T).1 = none → (rd1 L n f i c T).2.1 = c + stN L n f i := by
  intro f
  induction f with
  | zero => intro i c T _; rfl
  | succ f ih =>
    intro i c T h
    by_cases q : (gS L n i).1
    · have hi : i < n := by
        by_cases z : i < n
        · exact z
        · exact absurd q (gS_nl (by omega))
      rw [rd1_s, cI_t q] at h ⊢
      rw [stN, if_pos hi]
      by_cases q2 : (gS L n i).2 < n
      · rw [if_pos q2] at h ⊢
        rw [ih _ _ _ h]; omega
      · rw [if_neg q2, stN_e q2]
    · rw [rd1_s, cI_f q] at h; cases h
def rdOk (L : Nat → Int32) (n : Nat) (T f : Nat → Int32) (β : Bk) : Prop := (rd1 L n (n + 1) 0 0 T).1 = none ∧ (rd2 L n (n + 1) 0 (rd1 L n (n + 1) 0 0 T).2.2 f β).1 = none
noncomputable def inW (P : Prop) (w : Bk → Nat → Int32) (β : Bk) (g : Nat → Int32) : Nat → Int32 := cI P (cpyF (w β) g (2 ^ bH β)) g
theorem rdOk_n {L : Nat → Int32} {n i : Nat} {T f : Nat → Int32} {β : Bk} (h : (rd2 L n (n + 1) 0 (rd1 L n (n + 1) 0 0 T).2.2 f β).1 = some i) : ¬ rdOk L n T f β := fun z => by rw [rdOk, h] at z; cases z.2
theorem rdOk_m {L : Nat → Int32} {n i : Nat} {T f : Nat → Int32} {β : Bk} (h : (rd1 L n (n + 1) 0 0 T).1 = some i) : ¬ rdOk L n T f β := fun z => by rw [rdOk, h] at z; cases z.1
theorem cm_hk {β : Bk} {T : Nat → Int32} {c : Int32} (h : cmP β T c) (hb : bH β ≤ 4 ∧ bK β ≤ 6) : bH (cmB β T c) ≤ 4 ∧ bK (cmB β T c) ≤ 6 := by
  by_cases q1 : c = 104
  · have z := (cmP_h q1).mp h
    rw [cmB_h q1]
    exact ⟨by show bH β + 1 ≤ 4; omega, hb.2⟩
  by_cases q2 : c = 98
  · have z : bK β < 6 := ((cmP_b q2).mp h).2.2.2.2.2.2
    rw [cmB_b q2]
    exact ⟨hb.1, z⟩
  · rw [cmB_d ⟨q2, q1⟩]; exact hb
set_option maxHeartbeats 4000000 in
set_option maxRecDepth 100000 in
theorem k_X11_innTold (l : Launch) (G : GP) (ad : Nat → Nat) (σ : Nat → Nat → Int32) (h : Nat) (k : Nat) (n : Nat) (T : Nat → Int32) (F : Nat → Int32) (hb3 : (σ 7 3) = nI h) (hb4 : (σ 7 4) = nI k) (hh4 : h ≤ 4) (hk6 : k ≤ 6) (hkd : KD (σ 9) k) (hn : (σ 1 1) = nI n) (hn80 : n ≤ 80) (hLb : LB (σ 2) n) (hr1 : (rd1 (σ 2) n (n + 1) 0 0 T).1 = none) : CTE l G yX11_innTold cX11_innTold 4 (some .int) 9 [.ref (ad 0)] (WC G ad σ) (some (.int ((rdR (σ 2) n T F (bk h k (σ 8) (σ 9) (σ 10))).1))) (fun z => WC G ad (ua (ua (ua (ua (ua (ua (ua (ua (ua (ua (ua (ua (ua (ua σ 5 (upd (upd (σ 5) 2 (z 5 2)) 3 (z 5 3))) 6 (z 6)) 7 (upd (upd (σ 7) 3 (nI (bH (rdR (σ 2) n T F (bk h k (σ 8) (σ 9) (σ 10))).2.2))) 4 (nI (bK (rdR (σ 2) n T F (bk h k (σ 8) (σ 9) (σ 10))).2.2)))) 8 (bC (rdR (σ 2) n T F (bk h k (σ 8) (σ 9) (σ 10))).2.2)) 9 (bN (rdR (σ 2) n T F (bk h k (σ 8) (σ 9) (σ 10))).2.2)) 10 (bF (rdR (σ 2) n T F (bk h k (σ 8) (σ 9) (σ 10))).2.2)) 11 (upd (upd (σ 11) 3 (z 11 3)) 4 (z 11 4))) 12 (z 12)) 13 (z 13)) 14 (z 14)) 21 (inW (rdOk (σ 2) n T F (bk h k (σ 8) (σ 9) (σ 10))) wyM (rdR (σ 2) n T F (bk h k (σ 8) (σ 9) (σ 10))).2.2 (σ 21))) 22 (inW (rdOk (σ 2) n T F (bk h k (σ 8) (σ 9) (σ 10))) wyF (rdR (σ 2) n T F (bk h k (σ 8) (σ 9) (σ 10))).2.2 (σ 22))) 23 (inW (rdOk (σ 2) n T F (bk h k (σ 8) (σ 9) (σ 10))) wyW (rdR (σ 2) n T F (bk h k (σ 8) (σ 9) (σ 10))).2.2 (σ 23))) 24 (inW (rdOk (σ 2) n T F (bk h k (σ 8) (σ 9) (σ 10))) wyO (rdR (σ 2) n T F (bk h k (σ 8) (σ 9) (σ 10))).2.2 (σ 24)))) := by
  refine x_methE "BetsOnBets" rfl (by decide +kernel) (fun z => by rfl) (Nat.le_of_ble_eq_true rfl) ?_
  intro pP eE sS mM args below meth cC A ls hC hr hkL hK hZ hA hH hl
  have hx := hC.1
  have hb := hC.2.1
  have hl : lv_has ls 4 [(0, .ref (ad 0))] := hl
  have pwh := pw4 hh4
  have pwk := pw6 hk6
  have ph1 := Nat.one_le_two_pow (n := h)
  refine lv_aload_n hx hb dX11_innTold_0 rfl (lv_at hl 0 rfl) ?_
  refine gf_X11_32 (v := .ref (ad 11)) hC hK hH 0 rfl rfl dX11_innTold_1 ?_
  refine lv_aload_n hx hb dX11_innTold_4 rfl (lv_at hl 0 rfl) ?_
  refine gf_X11_28 (v := .ref (ad 7)) hC hK hH 0 rfl rfl dX11_innTold_5 ?_
  refine x_callV (ws' := WC G ad (ua (ua (ua (ua σ 11 (upd (upd (σ 11) 3 (σ 7 3)) 4 (σ 7 4))) 12 (σ 8)) 13 (σ 9)) 14 (σ 10))) (As := [.ref (ad 7)]) (rest := []) (st' := []) hC hK hZ hA hl.1 hH (k_X2_takeFrom l G (pk ad [11, 12, 13, 14, 7, 8, 9, 10]) (pk σ [11, 12, 13, 14, 7, 8, 9, 10])) lk_X11_153 [11, 12, 13, 14, 7, 8, 9, 10] rfl rfl rfl 11 1 rfl rfl rfl ⟨Nat.le_of_ble_eq_true rfl, Nat.le_of_ble_eq_true rfl⟩ ⟨Nat.le_refl _, Nat.le_refl _⟩ (Nat.le_of_ble_eq_true rfl) rfl dX11_innTold_8 (fun H locs hH => ?_)
  refine lv_aload_n hx hb dX11_innTold_11 rfl (lv_at hl 0 rfl) ?_
  refine gf_X11_10 (v := .ref (ad 5)) hC hK hH 0 rfl rfl dX11_innTold_12 ?_
  refine x_callV (ws' := WC G ad (ua (ua (ua (ua (ua σ 5 (upd (upd (σ 5) 2 0) 3 0)) 11 (upd (upd (σ 11) 3 (σ 7 3)) 4 (σ 7 4))) 12 (σ 8)) 13 (σ 9)) 14 (σ 10))) (As := []) (rest := []) (st' := []) hC hK hZ hA hl.1 hH (k_X8_begin l G (pk ad [5, 6, 1, 2]) (pk (ua (ua (ua (ua σ 11 (upd (upd (σ 11) 3 (σ 7 3)) 4 (σ 7 4))) 12 (σ 8)) 13 (σ 9)) 14 (σ 10)) [5, 6, 1, 2])) lk_X11_203 [5, 6, 1, 2] rfl rfl rfl 5 7 rfl rfl rfl ⟨Nat.le_of_ble_eq_true rfl, Nat.le_of_ble_eq_true rfl⟩ ⟨Nat.le_refl _, Nat.le_refl _⟩ (Nat.le_of_ble_eq_true rfl) rfl dX11_innTold_15 (fun H locs hH => ?_)
  refine lv_iconst (v := 0) hx hb dX11_innTold_18 (by decide) ?_
  refine lv_istore_n (lv' := [(1, .int 0), (0, .ref (ad 0))]) hx hb dX11_innTold_19 rfl hl (by decide) rfl (fun ls hl => ?_)
  refine x_loop (G := G) (A := A) (H0 := sS.heap) (nL := 4) (α := Nat × Nat × Nat × (Nat → Int32) × (Nat → Int32) × Bk × (Nat → Int32)) (fun q_ => q_.2.1) (fun q_ => q_.1 ≤ n ∧ n - q_.1 < q_.2.1 ∧ q_.2.2.1 ≤ q_.1 ∧ KD (bN q_.2.2.2.2.2.1) (bK q_.2.2.2.2.2.1) ∧ (bH q_.2.2.2.2.2.1 ≤ 4 ∧ bK q_.2.2.2.2.2.1 ≤ 6) ∧ (q_.1 < n → okP (σ 2) n q_.2.1 q_.1) ∧ rd2 (σ 2) n q_.2.1 q_.1 q_.2.2.2.1 q_.2.2.2.2.1 q_.2.2.2.2.2.1 = (rd2 (σ 2) n (n + 1) 0 (rd1 (σ 2) n (n + 1) 0 0 T).2.2 F (bk h k (σ 8) (σ 9) (σ 10))) ∧ q_.2.2.1 + stN (σ 2) n q_.2.1 q_.1 = stN (σ 2) n (n + 1) 0) (fun q_ => WC G ad (ua (ua (ua (ua (ua (ua σ 5 (upd (upd (σ 5) 2 (nI q_.1)) 3 0)) 6 q_.2.2.2.2.2.2) 11 (upd (upd (σ 11) 3 (nI (bH q_.2.2.2.2.2.1))) 4 (nI (bK q_.2.2.2.2.2.1)))) 12 (bC q_.2.2.2.2.2.1)) 13 (bN q_.2.2.2.2.2.1)) 14 (bF q_.2.2.2.2.2.1))) (fun q_ => [(0, .ref (ad 0)), (1, .int (nI q_.2.2.1))]) ?_ (0, (n + 1), 0, (rd1 (σ 2) n (n + 1) 0 0 T).2.2, F, (bk h k (σ 8) (σ 9) (σ 10)), (σ 6)) (show 0 ≤ n ∧ n - 0 < (n + 1) ∧ 0 ≤ 0 ∧ KD (bN (bk h k (σ 8) (σ 9) (σ 10))) (bK (bk h k (σ 8) (σ 9) (σ 10))) ∧ (bH (bk h k (σ 8) (σ 9) (σ 10)) ≤ 4 ∧ bK (bk h k (σ 8) (σ 9) (σ 10)) ≤ 6) ∧ (0 < n → okP (σ 2) n (n + 1) 0) ∧ rd2 (σ 2) n (n + 1) 0 ((rd1 (σ 2) n (n + 1) 0 0 T).2.2) F (bk h k (σ 8) (σ 9) (σ 10)) = (rd2 (σ 2) n (n + 1) 0 (rd1 (σ 2) n (n + 1) 0 0 T).2.2 F (bk h k (σ 8) (σ 9) (σ 10))) ∧ 0 + stN (σ 2) n (n + 1) 0 = stN (σ 2) n (n + 1) 0 from ⟨by omega, by omega, by omega, hkd, ⟨hh4, hk6⟩, fun _ => rd1_ok (n + 1) 0 0 T (by omega) hr1, rfl, by omega⟩) ?_ ?_
  · rintro ⟨i, g, c, T2, F2, β2, N2⟩ hi_i ih_i H locs ls hH hl
    replace hi_i : i ≤ n ∧ n - i < g ∧ c ≤ i ∧ KD (bN β2) (bK β2) ∧ (bH β2 ≤ 4 ∧ bK β2 ≤ 6) ∧ (i < n → okP (σ 2) n g i) ∧ rd2 (σ 2) n g i T2 F2 β2 = (rd2 (σ 2) n (n + 1) 0 (rd1 (σ 2) n (n + 1) 0 0 T).2.2 F (bk h k (σ 8) (σ 9) (σ 10))) ∧ c + stN (σ 2) n g i = stN (σ 2) n (n + 1) 0 := hi_i
    replace hH : Hx G A (WC G ad (ua (ua (ua (ua (ua (ua σ 5 (upd (upd (σ 5) 2 (nI i)) 3 0)) 6 N2) 11 (upd (upd (σ 11) 3 (nI (bH β2))) 4 (nI (bK β2)))) 12 (bC β2)) 13 (bN β2)) 14 (bF β2))) sS.heap H locs := hH
    replace hl : lv_has ls 4 [(0, .ref (ad 0)), (1, .int (nI c))] := hl
    have hi_i1 := hi_i.1
    have hi_h := hi_i.2.2.2.2.1.1
    have hi_k := hi_i.2.2.2.2.1.2
    refine lv_aload_n hx hb dX11_innTold_20 rfl (lv_at hl 0 rfl) ?_
    refine gf_X11_10 (v := .ref (ad 5)) hC hK hH 0 rfl rfl dX11_innTold_21 ?_
    refine x_callV (ws' := WC G ad (ua (ua (ua (ua (ua (ua σ 5 (upd (upd (σ 5) 2 (nI i)) 3 0)) 6 N2) 11 (upd (upd (σ 11) 3 (nI (bH β2))) 4 (nI (bK β2)))) 12 (bC β2)) 13 (bN β2)) 14 (bF β2))) (As := []) (rest := []) (st' := [.int (bI (gP n (False, i)))]) hC hK hZ hA hl.1 hH (k_X8_goesOn l G (pk ad [5, 6, 1, 2]) (pk (ua (ua (ua (ua (ua (ua σ 5 (upd (upd (σ 5) 2 (nI i)) 3 0)) 6 N2) 11 (upd (upd (σ 11) 3 (nI (bH β2))) 4 (nI (bK β2)))) 12 (bC β2)) 13 (bN β2)) 14 (bF β2)) [5, 6, 1, 2]) n (False, i) hn hn80 rfl (bI_f (P := False) (fun z => z)).symm hi_i1 hLb) lk_X11_206 [5, 6, 1, 2] rfl rfl rfl 5 7 rfl rfl rfl ⟨Nat.le_of_ble_eq_true rfl, Nat.le_of_ble_eq_true rfl⟩ ⟨Nat.le_refl _, Nat.le_refl _⟩ (Nat.le_of_ble_eq_true rfl) rfl dX11_innTold_24 (fun H locs hH => ?_)
    refine x_beq (tgt := 82) hC dX11_innTold_27 (by decide) (fun c27 => ?_) (fun c27 => ?_)
    · have ge_ : ¬ i < n := fun z => c27 ⟨fun y => y, z⟩
      have r2_ : (rd2 (σ 2) n (n + 1) 0 (rd1 (σ 2) n (n + 1) 0 0 T).2.2 F (bk h k (σ 8) (σ 9) (σ 10))) = (none, F2, β2) := by rw [← hi_i.2.2.2.2.2.2.1, rd2_e ge_]
      have cn_ : (rd1 (σ 2) n (n + 1) 0 0 T).2.1 = c := by rw [rd1_n _ _ _ _ hr1, ← hi_i.2.2.2.2.2.2.2, stN_e ge_]; omega
      refine lv_aload_n hx hb dX11_innTold_82 rfl (lv_at hl 0 rfl) ?_
      refine gf_X11_28 (v := .ref (ad 7)) hC hK hH 0 rfl rfl dX11_innTold_83 ?_
      refine lv_aload_n hx hb dX11_innTold_86 rfl (lv_at hl 0 rfl) ?_
      refine gf_X11_32 (v := .ref (ad 11)) hC hK hH 0 rfl rfl dX11_innTold_87 ?_
      refine x_callV (ws' := WC G ad (ua (ua (ua (ua (ua (ua (ua (ua (ua (ua σ 5 (upd (upd (σ 5) 2 (nI i)) 3 0)) 6 N2) 7 (upd (upd (σ 7) 3 (nI (bH β2))) 4 (nI (bK β2)))) 8 (bC β2)) 9 (bN β2)) 10 (bF β2)) 11 (upd (upd (σ 11) 3 (nI (bH β2))) 4 (nI (bK β2)))) 12 (bC β2)) 13 (bN β2)) 14 (bF β2))) (As := [.ref (ad 11)]) (rest := []) (st' := []) hC hK hZ hA hl.1 hH (k_X2_takeFrom l G (pk ad [7, 8, 9, 10, 11, 12, 13, 14]) (pk (ua (ua (ua (ua (ua (ua σ 5 (upd (upd (σ 5) 2 (nI i)) 3 0)) 6 N2) 11 (upd (upd (σ 11) 3 (nI (bH β2))) 4 (nI (bK β2)))) 12 (bC β2)) 13 (bN β2)) 14 (bF β2)) [7, 8, 9, 10, 11, 12, 13, 14])) lk_X11_153 [7, 8, 9, 10, 11, 12, 13, 14] rfl rfl rfl 7 1 rfl rfl rfl ⟨Nat.le_of_ble_eq_true rfl, Nat.le_of_ble_eq_true rfl⟩ ⟨Nat.le_refl _, Nat.le_refl _⟩ (Nat.le_of_ble_eq_true rfl) rfl dX11_innTold_90 (fun H locs hH => ?_)
      refine lv_aload_n hx hb dX11_innTold_93 rfl (lv_at hl 0 rfl) ?_
      refine gf_X11_41 (v := .ref (ad 19)) hC hK hH 0 rfl rfl dX11_innTold_94 ?_
      refine lv_aload_n hx hb dX11_innTold_97 rfl (lv_at hl 0 rfl) ?_
      refine gf_X11_28 (v := .ref (ad 7)) hC hK hH 0 rfl rfl dX11_innTold_98 ?_
      refine x_callV (ws' := WC G ad (ua (ua (ua (ua (ua (ua (ua (ua (ua (ua (ua (ua (ua (ua σ 5 (upd (upd (σ 5) 2 (nI i)) 3 0)) 6 N2) 7 (upd (upd (σ 7) 3 (nI (bH β2))) 4 (nI (bK β2)))) 8 (bC β2)) 9 (bN β2)) 10 (bF β2)) 11 (upd (upd (σ 11) 3 (nI (bH β2))) 4 (nI (bK β2)))) 12 (bC β2)) 13 (bN β2)) 14 (bF β2)) 21 (cpyF (wyM (bk (bH β2) (bK β2) (bC β2) (bN β2) (bF β2))) (σ 21) (2 ^ (bH β2)))) 22 (cpyF (wyF (bk (bH β2) (bK β2) (bC β2) (bN β2) (bF β2))) (σ 22) (2 ^ (bH β2)))) 23 (cpyF (wyW (bk (bH β2) (bK β2) (bC β2) (bN β2) (bF β2))) (σ 23) (2 ^ (bH β2)))) 24 (cpyF (wyO (bk (bH β2) (bK β2) (bC β2) (bN β2) (bF β2))) (σ 24) (2 ^ (bH β2))))) (As := [.ref (ad 7)]) (rest := []) (st' := []) hC hK hZ hA hl.1 hH (k_X10_find l G (pk ad [19, 20, 21, 22, 23, 24, 25, 26, 27, 28, 29, 30, 7, 8, 9, 10]) (pk (ua (ua (ua (ua (ua (ua (ua (ua (ua (ua σ 5 (upd (upd (σ 5) 2 (nI i)) 3 0)) 6 N2) 7 (upd (upd (σ 7) 3 (nI (bH β2))) 4 (nI (bK β2)))) 8 (bC β2)) 9 (bN β2)) 10 (bF β2)) 11 (upd (upd (σ 11) 3 (nI (bH β2))) 4 (nI (bK β2)))) 12 (bC β2)) 13 (bN β2)) 14 (bF β2)) [19, 20, 21, 22, 23, 24, 25, 26, 27, 28, 29, 30, 7, 8, 9, 10]) (bH β2) (bK β2) (by first | assumption | rfl | omega) (by first | assumption | rfl | omega) hi_h hi_k hi_i.2.2.2.1) lk_X11_194 [19, 20, 21, 22, 23, 24, 25, 26, 27, 28, 29, 30, 7, 8, 9, 10] rfl rfl rfl 19 9 rfl rfl rfl ⟨Nat.le_of_ble_eq_true rfl, Nat.le_of_ble_eq_true rfl⟩ ⟨Nat.le_refl _, Nat.le_refl _⟩ (Nat.le_of_ble_eq_true rfl) rfl dX11_innTold_101 (fun H locs hH => ?_)
      refine lv_iload_n hx hb dX11_innTold_104 rfl (lv_at hl 1 rfl) ?_
      exact x_iretE (ua (ua (ua (ua (ua (ua (ua (ua (ua (ua (ua (ua (ua (ua σ 5 (upd (upd (σ 5) 2 (nI i)) 3 0)) 6 N2) 7 (upd (upd (σ 7) 3 (nI (bH β2))) 4 (nI (bK β2)))) 8 (bC β2)) 9 (bN β2)) 10 (bF β2)) 11 (upd (upd (σ 11) 3 (nI (bH β2))) 4 (nI (bK β2)))) 12 (bC β2)) 13 (bN β2)) 14 (bF β2)) 21 (cpyF (wyM (bk (bH β2) (bK β2) (bC β2) (bN β2) (bF β2))) (σ 21) (2 ^ (bH β2)))) 22 (cpyF (wyF (bk (bH β2) (bK β2) (bC β2) (bN β2) (bF β2))) (σ 22) (2 ^ (bH β2)))) 23 (cpyF (wyW (bk (bH β2) (bK β2) (bC β2) (bN β2) (bF β2))) (σ 23) (2 ^ (bH β2)))) 24 (cpyF (wyO (bk (bH β2) (bK β2) (bC β2) (bN β2) (bF β2))) (σ 24) (2 ^ (bH β2)))) hC hr hkL hH (by rw [rdR_3 hr1 (by rw [r2_])]; exact congrArg nI cn_) ((((((((congrArg (fun z_ : Nat → Int32 => WC G ad (ua (ua (ua (ua (ua (ua (ua (ua (ua (ua (ua (ua (ua (ua σ 5 (upd (upd (σ 5) 2 (nI i)) 3 0)) 6 N2) 7 z_) 8 (bC (rdR (σ 2) n T F (bk h k (σ 8) (σ 9) (σ 10))).2.2)) 9 (bN (rdR (σ 2) n T F (bk h k (σ 8) (σ 9) (σ 10))).2.2)) 10 (bF (rdR (σ 2) n T F (bk h k (σ 8) (σ 9) (σ 10))).2.2)) 11 (upd (upd (σ 11) 3 (nI (bH β2))) 4 (nI (bK β2)))) 12 (bC β2)) 13 (bN β2)) 14 (bF β2)) 21 (inW (rdOk (σ 2) n T F (bk h k (σ 8) (σ 9) (σ 10))) wyM (rdR (σ 2) n T F (bk h k (σ 8) (σ 9) (σ 10))).2.2 (σ 21))) 22 (inW (rdOk (σ 2) n T F (bk h k (σ 8) (σ 9) (σ 10))) wyF (rdR (σ 2) n T F (bk h k (σ 8) (σ 9) (σ 10))).2.2 (σ 22))) 23 (inW (rdOk (σ 2) n T F (bk h k (σ 8) (σ 9) (σ 10))) wyW (rdR (σ 2) n T F (bk h k (σ 8) (σ 9) (σ 10))).2.2 (σ 23))) 24 (inW (rdOk (σ 2) n T F (bk h k (σ 8) (σ 9) (σ 10))) wyO (rdR (σ 2) n T F (bk h k (σ 8) (σ 9) (σ 10))).2.2 (σ 24)))) (by rw [rdR_3 hr1 (by rw [r2_]), r2_] : (upd (upd (σ 7) 3 (nI (bH (rdR (σ 2) n T F (bk h k (σ 8) (σ 9) (σ 10))).2.2))) 4 (nI (bK (rdR (σ 2) n T F (bk h k (σ 8) (σ 9) (σ 10))).2.2))) = (upd (upd (σ 7) 3 (nI (bH β2))) 4 (nI (bK β2))))).trans (congrArg (fun z_ : Nat → Int32 => WC G ad (ua (ua (ua (ua (ua (ua (ua (ua (ua (ua (ua (ua (ua (ua σ 5 (upd (upd (σ 5) 2 (nI i)) 3 0)) 6 N2) 7 (upd (upd (σ 7) 3 (nI (bH β2))) 4 (nI (bK β2)))) 8 z_) 9 (bN (rdR (σ 2) n T F (bk h k (σ 8) (σ 9) (σ 10))).2.2)) 10 (bF (rdR (σ 2) n T F (bk h k (σ 8) (σ 9) (σ 10))).2.2)) 11 (upd (upd (σ 11) 3 (nI (bH β2))) 4 (nI (bK β2)))) 12 (bC β2)) 13 (bN β2)) 14 (bF β2)) 21 (inW (rdOk (σ 2) n T F (bk h k (σ 8) (σ 9) (σ 10))) wyM (rdR (σ 2) n T F (bk h k (σ 8) (σ 9) (σ 10))).2.2 (σ 21))) 22 (inW (rdOk (σ 2) n T F (bk h k (σ 8) (σ 9) (σ 10))) wyF (rdR (σ 2) n T F (bk h k (σ 8) (σ 9) (σ 10))).2.2 (σ 22))) 23 (inW (rdOk (σ 2) n T F (bk h k (σ 8) (σ 9) (σ 10))) wyW (rdR (σ 2) n T F (bk h k (σ 8) (σ 9) (σ 10))).2.2 (σ 23))) 24 (inW (rdOk (σ 2) n T F (bk h k (σ 8) (σ 9) (σ 10))) wyO (rdR (σ 2) n T F (bk h k (σ 8) (σ 9) (σ 10))).2.2 (σ 24)))) (by rw [rdR_3 hr1 (by rw [r2_]), r2_] : (bC (rdR (σ 2) n T F (bk h k (σ 8) (σ 9) (σ 10))).2.2) = (bC β2)))).trans (congrArg (fun z_ : Nat → Int32 => WC G ad (ua (ua (ua (ua (ua (ua (ua (ua (ua (ua (ua (ua (ua (ua σ 5 (upd (upd (σ 5) 2 (nI i)) 3 0)) 6 N2) 7 (upd (upd (σ 7) 3 (nI (bH β2))) 4 (nI (bK β2)))) 8 (bC β2)) 9 z_) 10 (bF (rdR (σ 2) n T F (bk h k (σ 8) (σ 9) (σ 10))).2.2)) 11 (upd (upd (σ 11) 3 (nI (bH β2))) 4 (nI (bK β2)))) 12 (bC β2)) 13 (bN β2)) 14 (bF β2)) 21 (inW (rdOk (σ 2) n T F (bk h k (σ 8) (σ 9) (σ 10))) wyM (rdR (σ 2) n T F (bk h k (σ 8) (σ 9) (σ 10))).2.2 (σ 21))) 22 (inW (rdOk (σ 2) n T F (bk h k (σ 8) (σ 9) (σ 10))) wyF (rdR (σ 2) n T F (bk h k (σ 8) (σ 9) (σ 10))).2.2 (σ 22))) 23 (inW (rdOk (σ 2) n T F (bk h k (σ 8) (σ 9) (σ 10))) wyW (rdR (σ 2) n T F (bk h k (σ 8) (σ 9) (σ 10))).2.2 (σ 23))) 24 (inW (rdOk (σ 2) n T F (bk h k (σ 8) (σ 9) (σ 10))) wyO (rdR (σ 2) n T F (bk h k (σ 8) (σ 9) (σ 10))).2.2 (σ 24)))) (by rw [rdR_3 hr1 (by rw [r2_]), r2_] : (bN (rdR (σ 2) n T F (bk h k (σ 8) (σ 9) (σ 10))).2.2) = (bN β2)))).trans (congrArg (fun z_ : Nat → Int32 => WC G ad (ua (ua (ua (ua (ua (ua (ua (ua (ua (ua (ua (ua (ua (ua σ 5 (upd (upd (σ 5) 2 (nI i)) 3 0)) 6 N2) 7 (upd (upd (σ 7) 3 (nI (bH β2))) 4 (nI (bK β2)))) 8 (bC β2)) 9 (bN β2)) 10 z_) 11 (upd (upd (σ 11) 3 (nI (bH β2))) 4 (nI (bK β2)))) 12 (bC β2)) 13 (bN β2)) 14 (bF β2)) 21 (inW (rdOk (σ 2) n T F (bk h k (σ 8) (σ 9) (σ 10))) wyM (rdR (σ 2) n T F (bk h k (σ 8) (σ 9) (σ 10))).2.2 (σ 21))) 22 (inW (rdOk (σ 2) n T F (bk h k (σ 8) (σ 9) (σ 10))) wyF (rdR (σ 2) n T F (bk h k (σ 8) (σ 9) (σ 10))).2.2 (σ 22))) 23 (inW (rdOk (σ 2) n T F (bk h k (σ 8) (σ 9) (σ 10))) wyW (rdR (σ 2) n T F (bk h k (σ 8) (σ 9) (σ 10))).2.2 (σ 23))) 24 (inW (rdOk (σ 2) n T F (bk h k (σ 8) (σ 9) (σ 10))) wyO (rdR (σ 2) n T F (bk h k (σ 8) (σ 9) (σ 10))).2.2 (σ 24)))) (by rw [rdR_3 hr1 (by rw [r2_]), r2_] : (bF (rdR (σ 2) n T F (bk h k (σ 8) (σ 9) (σ 10))).2.2) = (bF β2)))).trans (congrArg (fun z_ : Nat → Int32 => WC G ad (ua (ua (ua (ua (ua (ua (ua (ua (ua (ua (ua (ua (ua (ua σ 5 (upd (upd (σ 5) 2 (nI i)) 3 0)) 6 N2) 7 (upd (upd (σ 7) 3 (nI (bH β2))) 4 (nI (bK β2)))) 8 (bC β2)) 9 (bN β2)) 10 (bF β2)) 11 (upd (upd (σ 11) 3 (nI (bH β2))) 4 (nI (bK β2)))) 12 (bC β2)) 13 (bN β2)) 14 (bF β2)) 21 z_) 22 (inW (rdOk (σ 2) n T F (bk h k (σ 8) (σ 9) (σ 10))) wyF (rdR (σ 2) n T F (bk h k (σ 8) (σ 9) (σ 10))).2.2 (σ 22))) 23 (inW (rdOk (σ 2) n T F (bk h k (σ 8) (σ 9) (σ 10))) wyW (rdR (σ 2) n T F (bk h k (σ 8) (σ 9) (σ 10))).2.2 (σ 23))) 24 (inW (rdOk (σ 2) n T F (bk h k (σ 8) (σ 9) (σ 10))) wyO (rdR (σ 2) n T F (bk h k (σ 8) (σ 9) (σ 10))).2.2 (σ 24)))) (by rw [inW, cI_t ⟨hr1, by rw [r2_]⟩, rdR_3 hr1 (by rw [r2_]), r2_]; rfl : (inW (rdOk (σ 2) n T F (bk h k (σ 8) (σ 9) (σ 10))) wyM (rdR (σ 2) n T F (bk h k (σ 8) (σ 9) (σ 10))).2.2 (σ 21)) = (cpyF (wyM (bk (bH β2) (bK β2) (bC β2) (bN β2) (bF β2))) (σ 21) (2 ^ (bH β2)))))).trans (congrArg (fun z_ : Nat → Int32 => WC G ad (ua (ua (ua (ua (ua (ua (ua (ua (ua (ua (ua (ua (ua (ua σ 5 (upd (upd (σ 5) 2 (nI i)) 3 0)) 6 N2) 7 (upd (upd (σ 7) 3 (nI (bH β2))) 4 (nI (bK β2)))) 8 (bC β2)) 9 (bN β2)) 10 (bF β2)) 11 (upd (upd (σ 11) 3 (nI (bH β2))) 4 (nI (bK β2)))) 12 (bC β2)) 13 (bN β2)) 14 (bF β2)) 21 (cpyF (wyM (bk (bH β2) (bK β2) (bC β2) (bN β2) (bF β2))) (σ 21) (2 ^ (bH β2)))) 22 z_) 23 (inW (rdOk (σ 2) n T F (bk h k (σ 8) (σ 9) (σ 10))) wyW (rdR (σ 2) n T F (bk h k (σ 8) (σ 9) (σ 10))).2.2 (σ 23))) 24 (inW (rdOk (σ 2) n T F (bk h k (σ 8) (σ 9) (σ 10))) wyO (rdR (σ 2) n T F (bk h k (σ 8) (σ 9) (σ 10))).2.2 (σ 24)))) (by rw [inW, cI_t ⟨hr1, by rw [r2_]⟩, rdR_3 hr1 (by rw [r2_]), r2_]; rfl : (inW (rdOk (σ 2) n T F (bk h k (σ 8) (σ 9) (σ 10))) wyF (rdR (σ 2) n T F (bk h k (σ 8) (σ 9) (σ 10))).2.2 (σ 22)) = (cpyF (wyF (bk (bH β2) (bK β2) (bC β2) (bN β2) (bF β2))) (σ 22) (2 ^ (bH β2)))))).trans (congrArg (fun z_ : Nat → Int32 => WC G ad (ua (ua (ua (ua (ua (ua (ua (ua (ua (ua (ua (ua (ua (ua σ 5 (upd (upd (σ 5) 2 (nI i)) 3 0)) 6 N2) 7 (upd (upd (σ 7) 3 (nI (bH β2))) 4 (nI (bK β2)))) 8 (bC β2)) 9 (bN β2)) 10 (bF β2)) 11 (upd (upd (σ 11) 3 (nI (bH β2))) 4 (nI (bK β2)))) 12 (bC β2)) 13 (bN β2)) 14 (bF β2)) 21 (cpyF (wyM (bk (bH β2) (bK β2) (bC β2) (bN β2) (bF β2))) (σ 21) (2 ^ (bH β2)))) 22 (cpyF (wyF (bk (bH β2) (bK β2) (bC β2) (bN β2) (bF β2))) (σ 22) (2 ^ (bH β2)))) 23 z_) 24 (inW (rdOk (σ 2) n T F (bk h k (σ 8) (σ 9) (σ 10))) wyO (rdR (σ 2) n T F (bk h k (σ 8) (σ 9) (σ 10))).2.2 (σ 24)))) (by rw [inW, cI_t ⟨hr1, by rw [r2_]⟩, rdR_3 hr1 (by rw [r2_]), r2_]; rfl : (inW (rdOk (σ 2) n T F (bk h k (σ 8) (σ 9) (σ 10))) wyW (rdR (σ 2) n T F (bk h k (σ 8) (σ 9) (σ 10))).2.2 (σ 23)) = (cpyF (wyW (bk (bH β2) (bK β2) (bC β2) (bN β2) (bF β2))) (σ 23) (2 ^ (bH β2)))))).trans (congrArg (fun z_ : Nat → Int32 => WC G ad (ua (ua (ua (ua (ua (ua (ua (ua (ua (ua (ua (ua (ua (ua σ 5 (upd (upd (σ 5) 2 (nI i)) 3 0)) 6 N2) 7 (upd (upd (σ 7) 3 (nI (bH β2))) 4 (nI (bK β2)))) 8 (bC β2)) 9 (bN β2)) 10 (bF β2)) 11 (upd (upd (σ 11) 3 (nI (bH β2))) 4 (nI (bK β2)))) 12 (bC β2)) 13 (bN β2)) 14 (bF β2)) 21 (cpyF (wyM (bk (bH β2) (bK β2) (bC β2) (bN β2) (bF β2))) (σ 21) (2 ^ (bH β2)))) 22 (cpyF (wyF (bk (bH β2) (bK β2) (bC β2) (bN β2) (bF β2))) (σ 22) (2 ^ (bH β2)))) 23 (cpyF (wyW (bk (bH β2) (bK β2) (bC β2) (bN β2) (bF β2))) (σ 23) (2 ^ (bH β2)))) 24 z_)) (by rw [inW, cI_t ⟨hr1, by rw [r2_]⟩, rdR_3 hr1 (by rw [r2_]), r2_]; rfl : (inW (rdOk (σ 2) n T F (bk h k (σ 8) (σ 9) (σ 10))) wyO (rdR (σ 2) n T F (bk h k (σ 8) (σ 9) (σ 10))).2.2 (σ 24)) = (cpyF (wyO (bk (bH β2) (bK β2) (bC β2) (bN β2) (bF β2))) (σ 24) (2 ^ (bH β2)))))) dX11_innTold_105
    · obtain ⟨g1_, eg1_⟩ : ∃ g1_, g = g1_ + 1 := ⟨g - 1, by have := hi_i.2.1; omega⟩
      have lt_i : i < n := c27.2
      have ok_ := hi_i.2.2.2.2.2.1 lt_i
      rw [eg1_] at ok_
      have sa_ := s_all (L := (σ 2)) (n := n) i
      have sa2_ := sa_.2 ok_.1
      have gt_ := gS_gt ok_.1
      have gle_ := gS_le (L := (σ 2)) (n := n) (i := i) hi_i1
      refine lv_iload_n hx hb dX11_innTold_30 rfl (lv_at hl 1 rfl) ?_
      refine lv_bipush (v := 80) hx hb dX11_innTold_31 (by decide) ?_
      refine lv_icmp_ge (tgt := 82) hx hb dX11_innTold_33 (by decide) (fun c33 => ?_) (fun c33 => ?_)
      · exact absurd ((nI_leI (a := 80) (b := c) (by omega) (by have := hi_i.2.2.1; omega)).mp c33) (by have := hi_i.2.2.1; omega)
      refine lv_aload_n hx hb dX11_innTold_36 rfl (lv_at hl 0 rfl) ?_
      refine gf_X11_10 (v := .ref (ad 5)) hC hK hH 0 rfl rfl dX11_innTold_37 ?_
      refine gf_X11_210 (v := .int (nI i)) hC hK hH 5 rfl rfl dX11_innTold_40 ?_
      refine lv_istore_n (lv' := [(2, .int (nI i)), (0, .ref (ad 0)), (1, .int (nI c))]) hx hb dX11_innTold_43 rfl hl (by decide) rfl (fun ls hl => ?_)
      refine lv_aload_n hx hb dX11_innTold_44 rfl (lv_at hl 1 rfl) ?_
      refine gf_X11_10 (v := .ref (ad 5)) hC hK hH 0 rfl rfl dX11_innTold_45 ?_
      refine x_callV (ws' := WC G ad (ua (ua (ua (ua (ua (ua σ 5 (upd (upd (σ 5) 2 (nI (sF (σ 2) n (False, i)).2)) 3 (bI (sF (σ 2) n (False, i)).1))) 6 (sT (σ 2) n (False, i) N2)) 11 (upd (upd (σ 11) 3 (nI (bH β2))) 4 (nI (bK β2)))) 12 (bC β2)) 13 (bN β2)) 14 (bF β2))) (As := []) (rest := []) (st' := [.int (oV (σ 2) n 0 (False, i))]) hC hK hZ hA hl.1 hH (k_X8_readStatement l G (pk ad [5, 6, 1, 2]) (pk (ua (ua (ua (ua (ua (ua σ 5 (upd (upd (σ 5) 2 (nI i)) 3 0)) 6 N2) 11 (upd (upd (σ 11) 3 (nI (bH β2))) 4 (nI (bK β2)))) 12 (bC β2)) 13 (bN β2)) 14 (bF β2)) [5, 6, 1, 2]) n (False, i) hn hn80 rfl (bI_f (P := False) (fun z => z)).symm hi_i1 hLb) lk_X11_213 [5, 6, 1, 2] rfl rfl rfl 5 7 rfl rfl rfl ⟨Nat.le_of_ble_eq_true rfl, Nat.le_of_ble_eq_true rfl⟩ ⟨Nat.le_refl _, Nat.le_refl _⟩ (Nat.le_of_ble_eq_true rfl) rfl dX11_innTold_48 (fun H locs hH => ?_)
      replace hH : Hx G A (WC G ad (ua (ua (ua (ua (ua (ua σ 5 (upd (upd (σ 5) 2 (nI (gS (σ 2) n i).2)) 3 0)) 6 (sT (σ 2) n (False, i) N2)) 11 (upd (upd (σ 11) 3 (nI (bH β2))) 4 (nI (bK β2)))) 12 (bC β2)) 13 (bN β2)) 14 (bF β2))) sS.heap H locs := hH.eq (congrArg (fun z_ : Nat → Int32 => WC G ad (ua (ua (ua (ua (ua (ua σ 5 z_) 6 (sT (σ 2) n (False, i) N2)) 11 (upd (upd (σ 11) 3 (nI (bH β2))) 4 (nI (bK β2)))) 12 (bC β2)) 13 (bN β2)) 14 (bF β2))) (by rw [pg_i sa_.1 ok_.1, show bI (False, (gS (σ 2) n i).2).1 = 0 from bI_f (fun z => z)] : (upd (upd (σ 5) 2 (nI (sF (σ 2) n (False, i)).2)) 3 (bI (sF (σ 2) n (False, i)).1)) = (upd (upd (σ 5) 2 (nI (gS (σ 2) n i).2)) 3 0)))
      refine lv_istore_n (lv' := [(3, .int (oV (σ 2) n 0 (False, i))), (2, .int (nI i)), (0, .ref (ad 0)), (1, .int (nI c))]) hx hb dX11_innTold_51 rfl hl (by decide) rfl (fun ls hl => ?_)
      refine lv_aload_n hx hb dX11_innTold_52 rfl (lv_at hl 2 rfl) ?_
      refine gf_X11_32 (v := .ref (ad 11)) hC hK hH 0 rfl rfl dX11_innTold_53 ?_
      refine lv_iload_n hx hb dX11_innTold_56 rfl (lv_at hl 0 rfl) ?_
      refine lv_aload_n hx hb dX11_innTold_57 rfl (lv_at hl 2 rfl) ?_
      refine gf_X11_10 (v := .ref (ad 5)) hC hK hH 0 rfl rfl dX11_innTold_58 ?_
      refine gf_X11_216 (v := .ref (ad 6)) hC hK hH 5 rfl rfl dX11_innTold_61 ?_
      refine x_callV (ws' := WC G ad (ua (ua (ua (ua (ua (ua σ 5 (upd (upd (σ 5) 2 (nI (gS (σ 2) n i).2)) 3 0)) 6 (sT (σ 2) n (False, i) N2)) 11 (upd (upd (σ 11) 3 (nI (bH (csB (bk (bH β2) (bK β2) (bC β2) (bN β2) (bF β2)) (sT (σ 2) n (False, i) N2) (sgF (σ 2) n i))))) 4 (nI (bK (csB (bk (bH β2) (bK β2) (bC β2) (bN β2) (bF β2)) (sT (σ 2) n (False, i) N2) (sgF (σ 2) n i)))))) 12 (bC (csB (bk (bH β2) (bK β2) (bC β2) (bN β2) (bF β2)) (sT (σ 2) n (False, i) N2) (sgF (σ 2) n i)))) 13 (bN (csB (bk (bH β2) (bK β2) (bC β2) (bN β2) (bF β2)) (sT (σ 2) n (False, i) N2) (sgF (σ 2) n i)))) 14 (bF (csB (bk (bH β2) (bK β2) (bC β2) (bN β2) (bF β2)) (sT (σ 2) n (False, i) N2) (sgF (σ 2) n i))))) (As := [.int (oV (σ 2) n 0 (False, i)), .ref (ad 6)]) (rest := []) (st' := [.int (bI (cmP (bk (bH β2) (bK β2) (bC β2) (bN β2) (bF β2)) (sT (σ 2) n (False, i) N2) (sgF (σ 2) n i)))]) hC hK hZ hA hl.1 hH (k_X2_comes l G (pk ad [11, 12, 13, 14, 6]) (pk (ua (ua (ua (ua (ua (ua σ 5 (upd (upd (σ 5) 2 (nI (gS (σ 2) n i).2)) 3 0)) 6 (sT (σ 2) n (False, i) N2)) 11 (upd (upd (σ 11) 3 (nI (bH β2))) 4 (nI (bK β2)))) 12 (bC β2)) 13 (bN β2)) 14 (bF β2)) [11, 12, 13, 14, 6]) (oV (σ 2) n 0 (False, i)) (bH β2) (bK β2) (sgF (σ 2) n i) (by first | assumption | rfl | omega) (by first | assumption | rfl | omega) hi_h hi_k sa2_.1) lk_X11_219 [11, 12, 13, 14, 6] rfl rfl rfl 11 1 rfl rfl rfl ⟨Nat.le_of_ble_eq_true rfl, Nat.le_of_ble_eq_true rfl⟩ ⟨Nat.le_refl _, Nat.le_refl _⟩ (Nat.le_of_ble_eq_true rfl) rfl dX11_innTold_64 (fun H locs hH => ?_)
      refine x_topE (y := (bI ((cmP β2 (sT (σ 2) n (False, i) N2) (sgF (σ 2) n i))))) rfl ?_
      refine x_bne (tgt := 76) hC dX11_innTold_67 (by decide) (fun c67 => ?_) (fun c67 => ?_)
      · have cs_ : csB (bk (bH β2) (bK β2) (bC β2) (bN β2) (bF β2)) (sT (σ 2) n (False, i) N2) (sgF (σ 2) n i) = cmB β2 (tS (σ 2) n i T2) (sgF (σ 2) n i) := (show csB β2 (sT (σ 2) n (False, i) N2) (sgF (σ 2) n i) = _ from (cI_t c67).trans (ag_B (sa2_.2.1 T2 N2)).symm)
        have kd_ := kd_cm (T := (tS (σ 2) n i T2)) hi_i.2.2.2.1 (fun z => by have y := sa2_.2.2 z T2; rw [y.2]; exact kd_6 _ y.1)
        have cp_ := (ag_P (β := β2) (sa2_.2.1 T2 N2)).mpr c67
        refine lv_iinc (v := ((nI c) + 1)) (lv' := [(1, .int ((nI c) + 1)), (3, .int (oV (σ 2) n 0 (False, i))), (2, .int (nI i)), (0, .ref (ad 0))]) hx hb dX11_innTold_76 hl (k := 3) rfl rfl (by decide) rfl (fun ls hl => ?_)
        refine lv_goto (tgt := 20) hx hb dX11_innTold_79 (by decide) ?_
        exact ih_i ((gS (σ 2) n i).2, g1_, (c + 1), (tS (σ 2) n i T2), (cmF F2 β2 (tS (σ 2) n i T2) (sgF (σ 2) n i)), (cmB β2 (tS (σ 2) n i T2) (sgF (σ 2) n i)), (sT (σ 2) n (False, i) N2)) (show ((gS (σ 2) n i).2) ≤ n ∧ n - ((gS (σ 2) n i).2) < g1_ ∧ (c + 1) ≤ ((gS (σ 2) n i).2) ∧ KD (bN (cmB β2 (tS (σ 2) n i T2) (sgF (σ 2) n i))) (bK (cmB β2 (tS (σ 2) n i T2) (sgF (σ 2) n i))) ∧ (bH (cmB β2 (tS (σ 2) n i T2) (sgF (σ 2) n i)) ≤ 4 ∧ bK (cmB β2 (tS (σ 2) n i T2) (sgF (σ 2) n i)) ≤ 6) ∧ (((gS (σ 2) n i).2) < n → okP (σ 2) n g1_ ((gS (σ 2) n i).2)) ∧ rd2 (σ 2) n g1_ ((gS (σ 2) n i).2) (tS (σ 2) n i T2) (cmF F2 β2 (tS (σ 2) n i T2) (sgF (σ 2) n i)) (cmB β2 (tS (σ 2) n i T2) (sgF (σ 2) n i)) = (rd2 (σ 2) n (n + 1) 0 (rd1 (σ 2) n (n + 1) 0 0 T).2.2 F (bk h k (σ 8) (σ 9) (σ 10))) ∧ (c + 1) + stN (σ 2) n g1_ ((gS (σ 2) n i).2) = stN (σ 2) n (n + 1) 0 from ⟨gle_, by have := hi_i.2.1; omega, by have := hi_i.2.2.1; omega, kd_, cm_hk cp_ ⟨hi_h, hi_k⟩, ok_.2, by rw [← hi_i.2.2.2.2.2.2.1, eg1_, rd2_t lt_i cp_], by rw [← hi_i.2.2.2.2.2.2.2, eg1_, stN, if_pos lt_i]; omega⟩) (show g1_ < g from (by omega)) _ _ _ (hH.eq (((((congrArg (fun z_ : Nat → Int32 => WC G ad (ua (ua (ua (ua (ua (ua σ 5 z_) 6 (sT (σ 2) n (False, i) N2)) 11 (upd (upd (σ 11) 3 (nI (bH (csB (bk (bH β2) (bK β2) (bC β2) (bN β2) (bF β2)) (sT (σ 2) n (False, i) N2) (sgF (σ 2) n i))))) 4 (nI (bK (csB (bk (bH β2) (bK β2) (bC β2) (bN β2) (bF β2)) (sT (σ 2) n (False, i) N2) (sgF (σ 2) n i)))))) 12 (bC (csB (bk (bH β2) (bK β2) (bC β2) (bN β2) (bF β2)) (sT (σ 2) n (False, i) N2) (sgF (σ 2) n i)))) 13 (bN (csB (bk (bH β2) (bK β2) (bC β2) (bN β2) (bF β2)) (sT (σ 2) n (False, i) N2) (sgF (σ 2) n i)))) 14 (bF (csB (bk (bH β2) (bK β2) (bC β2) (bN β2) (bF β2)) (sT (σ 2) n (False, i) N2) (sgF (σ 2) n i))))) (by rfl : (upd (upd (σ 5) 2 (nI (gS (σ 2) n i).2)) 3 0) = (upd (upd (σ 5) 2 (nI ((gS (σ 2) n i).2))) 3 0))).trans (congrArg (fun z_ : Nat → Int32 => WC G ad (ua (ua (ua (ua (ua (ua σ 5 (upd (upd (σ 5) 2 (nI ((gS (σ 2) n i).2))) 3 0)) 6 (sT (σ 2) n (False, i) N2)) 11 z_) 12 (bC (csB (bk (bH β2) (bK β2) (bC β2) (bN β2) (bF β2)) (sT (σ 2) n (False, i) N2) (sgF (σ 2) n i)))) 13 (bN (csB (bk (bH β2) (bK β2) (bC β2) (bN β2) (bF β2)) (sT (σ 2) n (False, i) N2) (sgF (σ 2) n i)))) 14 (bF (csB (bk (bH β2) (bK β2) (bC β2) (bN β2) (bF β2)) (sT (σ 2) n (False, i) N2) (sgF (σ 2) n i))))) (by rw [cs_] : (upd (upd (σ 11) 3 (nI (bH (csB (bk (bH β2) (bK β2) (bC β2) (bN β2) (bF β2)) (sT (σ 2) n (False, i) N2) (sgF (σ 2) n i))))) 4 (nI (bK (csB (bk (bH β2) (bK β2) (bC β2) (bN β2) (bF β2)) (sT (σ 2) n (False, i) N2) (sgF (σ 2) n i))))) = (upd (upd (σ 11) 3 (nI (bH (cmB β2 (tS (σ 2) n i T2) (sgF (σ 2) n i))))) 4 (nI (bK (cmB β2 (tS (σ 2) n i T2) (sgF (σ 2) n i)))))))).trans (congrArg (fun z_ : Nat → Int32 => WC G ad (ua (ua (ua (ua (ua (ua σ 5 (upd (upd (σ 5) 2 (nI ((gS (σ 2) n i).2))) 3 0)) 6 (sT (σ 2) n (False, i) N2)) 11 (upd (upd (σ 11) 3 (nI (bH (cmB β2 (tS (σ 2) n i T2) (sgF (σ 2) n i))))) 4 (nI (bK (cmB β2 (tS (σ 2) n i T2) (sgF (σ 2) n i)))))) 12 z_) 13 (bN (csB (bk (bH β2) (bK β2) (bC β2) (bN β2) (bF β2)) (sT (σ 2) n (False, i) N2) (sgF (σ 2) n i)))) 14 (bF (csB (bk (bH β2) (bK β2) (bC β2) (bN β2) (bF β2)) (sT (σ 2) n (False, i) N2) (sgF (σ 2) n i))))) (by rw [cs_] : (bC (csB (bk (bH β2) (bK β2) (bC β2) (bN β2) (bF β2)) (sT (σ 2) n (False, i) N2) (sgF (σ 2) n i))) = (bC (cmB β2 (tS (σ 2) n i T2) (sgF (σ 2) n i)))))).trans (congrArg (fun z_ : Nat → Int32 => WC G ad (ua (ua (ua (ua (ua (ua σ 5 (upd (upd (σ 5) 2 (nI ((gS (σ 2) n i).2))) 3 0)) 6 (sT (σ 2) n (False, i) N2)) 11 (upd (upd (σ 11) 3 (nI (bH (cmB β2 (tS (σ 2) n i T2) (sgF (σ 2) n i))))) 4 (nI (bK (cmB β2 (tS (σ 2) n i T2) (sgF (σ 2) n i)))))) 12 (bC (cmB β2 (tS (σ 2) n i T2) (sgF (σ 2) n i)))) 13 z_) 14 (bF (csB (bk (bH β2) (bK β2) (bC β2) (bN β2) (bF β2)) (sT (σ 2) n (False, i) N2) (sgF (σ 2) n i))))) (by rw [cs_] : (bN (csB (bk (bH β2) (bK β2) (bC β2) (bN β2) (bF β2)) (sT (σ 2) n (False, i) N2) (sgF (σ 2) n i))) = (bN (cmB β2 (tS (σ 2) n i T2) (sgF (σ 2) n i)))))).trans (congrArg (fun z_ : Nat → Int32 => WC G ad (ua (ua (ua (ua (ua (ua σ 5 (upd (upd (σ 5) 2 (nI ((gS (σ 2) n i).2))) 3 0)) 6 (sT (σ 2) n (False, i) N2)) 11 (upd (upd (σ 11) 3 (nI (bH (cmB β2 (tS (σ 2) n i T2) (sgF (σ 2) n i))))) 4 (nI (bK (cmB β2 (tS (σ 2) n i T2) (sgF (σ 2) n i)))))) 12 (bC (cmB β2 (tS (σ 2) n i T2) (sgF (σ 2) n i)))) 13 (bN (cmB β2 (tS (σ 2) n i T2) (sgF (σ 2) n i)))) 14 z_)) (by rw [cs_] : (bF (csB (bk (bH β2) (bK β2) (bC β2) (bN β2) (bF β2)) (sT (σ 2) n (False, i) N2) (sgF (σ 2) n i))) = (bF (cmB β2 (tS (σ 2) n i T2) (sgF (σ 2) n i))))))) (lv_eq (lv_sub hl [3, 0] rfl) (lc_s (lc_i (by exact nI_1 _ : ((nI c) + 1) = (nI (c + 1))) rfl)))
      · have r2_ : (rd2 (σ 2) n (n + 1) 0 (rd1 (σ 2) n (n + 1) 0 0 T).2.2 F (bk h k (σ 8) (σ 9) (σ 10))).1 = some i := by rw [← hi_i.2.2.2.2.2.2.1, eg1_, rd2_f lt_i (fun z => c67 ((ag_P (sa2_.2.1 T2 N2)).mp z))]
        refine lv_sipush (v := (-2000)) hx hb dX11_innTold_70 (by decide) ?_
        refine lv_iload_n hx hb dX11_innTold_73 rfl (lv_at hl 1 rfl) ?_
        refine lv_isub hx hb dX11_innTold_74 ?_
        exact x_iretE (ua (ua (ua (ua (ua (ua σ 5 (upd (upd (σ 5) 2 (nI (gS (σ 2) n i).2)) 3 0)) 6 (sT (σ 2) n (False, i) N2)) 11 (upd (upd (σ 11) 3 (nI (bH (csB (bk (bH β2) (bK β2) (bC β2) (bN β2) (bF β2)) (sT (σ 2) n (False, i) N2) (sgF (σ 2) n i))))) 4 (nI (bK (csB (bk (bH β2) (bK β2) (bC β2) (bN β2) (bF β2)) (sT (σ 2) n (False, i) N2) (sgF (σ 2) n i)))))) 12 (bC (csB (bk (bH β2) (bK β2) (bC β2) (bN β2) (bF β2)) (sT (σ 2) n (False, i) N2) (sgF (σ 2) n i)))) 13 (bN (csB (bk (bH β2) (bK β2) (bC β2) (bN β2) (bF β2)) (sT (σ 2) n (False, i) N2) (sgF (σ 2) n i)))) 14 (bF (csB (bk (bH β2) (bK β2) (bC β2) (bN β2) (bF β2)) (sT (σ 2) n (False, i) N2) (sgF (σ 2) n i)))) hC hr hkL hH (by rw [rdR_2 hr1 r2_]) (((((((((congrArg (fun z_ : Nat → Int32 => WC G ad (ua (ua (ua (ua (ua (ua (ua (ua (ua (ua (ua (ua (ua (ua σ 5 (upd (upd (σ 5) 2 (nI (gS (σ 2) n i).2)) 3 0)) 6 (sT (σ 2) n (False, i) N2)) 7 z_) 8 (bC (rdR (σ 2) n T F (bk h k (σ 8) (σ 9) (σ 10))).2.2)) 9 (bN (rdR (σ 2) n T F (bk h k (σ 8) (σ 9) (σ 10))).2.2)) 10 (bF (rdR (σ 2) n T F (bk h k (σ 8) (σ 9) (σ 10))).2.2)) 11 (upd (upd (σ 11) 3 (nI (bH (csB (bk (bH β2) (bK β2) (bC β2) (bN β2) (bF β2)) (sT (σ 2) n (False, i) N2) (sgF (σ 2) n i))))) 4 (nI (bK (csB (bk (bH β2) (bK β2) (bC β2) (bN β2) (bF β2)) (sT (σ 2) n (False, i) N2) (sgF (σ 2) n i)))))) 12 (bC (csB (bk (bH β2) (bK β2) (bC β2) (bN β2) (bF β2)) (sT (σ 2) n (False, i) N2) (sgF (σ 2) n i)))) 13 (bN (csB (bk (bH β2) (bK β2) (bC β2) (bN β2) (bF β2)) (sT (σ 2) n (False, i) N2) (sgF (σ 2) n i)))) 14 (bF (csB (bk (bH β2) (bK β2) (bC β2) (bN β2) (bF β2)) (sT (σ 2) n (False, i) N2) (sgF (σ 2) n i)))) 21 (inW (rdOk (σ 2) n T F (bk h k (σ 8) (σ 9) (σ 10))) wyM (rdR (σ 2) n T F (bk h k (σ 8) (σ 9) (σ 10))).2.2 (σ 21))) 22 (inW (rdOk (σ 2) n T F (bk h k (σ 8) (σ 9) (σ 10))) wyF (rdR (σ 2) n T F (bk h k (σ 8) (σ 9) (σ 10))).2.2 (σ 22))) 23 (inW (rdOk (σ 2) n T F (bk h k (σ 8) (σ 9) (σ 10))) wyW (rdR (σ 2) n T F (bk h k (σ 8) (σ 9) (σ 10))).2.2 (σ 23))) 24 (inW (rdOk (σ 2) n T F (bk h k (σ 8) (σ 9) (σ 10))) wyO (rdR (σ 2) n T F (bk h k (σ 8) (σ 9) (σ 10))).2.2 (σ 24)))) (by rw [rdR_2 hr1 r2_]; exact upd2_id hb3.symm hb4.symm : (upd (upd (σ 7) 3 (nI (bH (rdR (σ 2) n T F (bk h k (σ 8) (σ 9) (σ 10))).2.2))) 4 (nI (bK (rdR (σ 2) n T F (bk h k (σ 8) (σ 9) (σ 10))).2.2))) = (σ 7))).trans (congrArg (fun z_ : Nat → Int32 => WC G ad (ua (ua (ua (ua (ua (ua (ua (ua (ua (ua (ua (ua (ua (ua σ 5 (upd (upd (σ 5) 2 (nI (gS (σ 2) n i).2)) 3 0)) 6 (sT (σ 2) n (False, i) N2)) 7 (σ 7)) 8 z_) 9 (bN (rdR (σ 2) n T F (bk h k (σ 8) (σ 9) (σ 10))).2.2)) 10 (bF (rdR (σ 2) n T F (bk h k (σ 8) (σ 9) (σ 10))).2.2)) 11 (upd (upd (σ 11) 3 (nI (bH (csB (bk (bH β2) (bK β2) (bC β2) (bN β2) (bF β2)) (sT (σ 2) n (False, i) N2) (sgF (σ 2) n i))))) 4 (nI (bK (csB (bk (bH β2) (bK β2) (bC β2) (bN β2) (bF β2)) (sT (σ 2) n (False, i) N2) (sgF (σ 2) n i)))))) 12 (bC (csB (bk (bH β2) (bK β2) (bC β2) (bN β2) (bF β2)) (sT (σ 2) n (False, i) N2) (sgF (σ 2) n i)))) 13 (bN (csB (bk (bH β2) (bK β2) (bC β2) (bN β2) (bF β2)) (sT (σ 2) n (False, i) N2) (sgF (σ 2) n i)))) 14 (bF (csB (bk (bH β2) (bK β2) (bC β2) (bN β2) (bF β2)) (sT (σ 2) n (False, i) N2) (sgF (σ 2) n i)))) 21 (inW (rdOk (σ 2) n T F (bk h k (σ 8) (σ 9) (σ 10))) wyM (rdR (σ 2) n T F (bk h k (σ 8) (σ 9) (σ 10))).2.2 (σ 21))) 22 (inW (rdOk (σ 2) n T F (bk h k (σ 8) (σ 9) (σ 10))) wyF (rdR (σ 2) n T F (bk h k (σ 8) (σ 9) (σ 10))).2.2 (σ 22))) 23 (inW (rdOk (σ 2) n T F (bk h k (σ 8) (σ 9) (σ 10))) wyW (rdR (σ 2) n T F (bk h k (σ 8) (σ 9) (σ 10))).2.2 (σ 23))) 24 (inW (rdOk (σ 2) n T F (bk h k (σ 8) (σ 9) (σ 10))) wyO (rdR (σ 2) n T F (bk h k (σ 8) (σ 9) (σ 10))).2.2 (σ 24)))) (by rw [rdR_2 hr1 r2_]; rfl : (bC (rdR (σ 2) n T F (bk h k (σ 8) (σ 9) (σ 10))).2.2) = (σ 8)))).trans (congrArg (fun z_ : Nat → Int32 => WC G ad (ua (ua (ua (ua (ua (ua (ua (ua (ua (ua (ua (ua (ua (ua σ 5 (upd (upd (σ 5) 2 (nI (gS (σ 2) n i).2)) 3 0)) 6 (sT (σ 2) n (False, i) N2)) 7 (σ 7)) 8 (σ 8)) 9 z_) 10 (bF (rdR (σ 2) n T F (bk h k (σ 8) (σ 9) (σ 10))).2.2)) 11 (upd (upd (σ 11) 3 (nI (bH (csB (bk (bH β2) (bK β2) (bC β2) (bN β2) (bF β2)) (sT (σ 2) n (False, i) N2) (sgF (σ 2) n i))))) 4 (nI (bK (csB (bk (bH β2) (bK β2) (bC β2) (bN β2) (bF β2)) (sT (σ 2) n (False, i) N2) (sgF (σ 2) n i)))))) 12 (bC (csB (bk (bH β2) (bK β2) (bC β2) (bN β2) (bF β2)) (sT (σ 2) n (False, i) N2) (sgF (σ 2) n i)))) 13 (bN (csB (bk (bH β2) (bK β2) (bC β2) (bN β2) (bF β2)) (sT (σ 2) n (False, i) N2) (sgF (σ 2) n i)))) 14 (bF (csB (bk (bH β2) (bK β2) (bC β2) (bN β2) (bF β2)) (sT (σ 2) n (False, i) N2) (sgF (σ 2) n i)))) 21 (inW (rdOk (σ 2) n T F (bk h k (σ 8) (σ 9) (σ 10))) wyM (rdR (σ 2) n T F (bk h k (σ 8) (σ 9) (σ 10))).2.2 (σ 21))) 22 (inW (rdOk (σ 2) n T F (bk h k (σ 8) (σ 9) (σ 10))) wyF (rdR (σ 2) n T F (bk h k (σ 8) (σ 9) (σ 10))).2.2 (σ 22))) 23 (inW (rdOk (σ 2) n T F (bk h k (σ 8) (σ 9) (σ 10))) wyW (rdR (σ 2) n T F (bk h k (σ 8) (σ 9) (σ 10))).2.2 (σ 23))) 24 (inW (rdOk (σ 2) n T F (bk h k (σ 8) (σ 9) (σ 10))) wyO (rdR (σ 2) n T F (bk h k (σ 8) (σ 9) (σ 10))).2.2 (σ 24)))) (by rw [rdR_2 hr1 r2_]; rfl : (bN (rdR (σ 2) n T F (bk h k (σ 8) (σ 9) (σ 10))).2.2) = (σ 9)))).trans (congrArg (fun z_ : Nat → Int32 => WC G ad (ua (ua (ua (ua (ua (ua (ua (ua (ua (ua (ua (ua (ua (ua σ 5 (upd (upd (σ 5) 2 (nI (gS (σ 2) n i).2)) 3 0)) 6 (sT (σ 2) n (False, i) N2)) 7 (σ 7)) 8 (σ 8)) 9 (σ 9)) 10 z_) 11 (upd (upd (σ 11) 3 (nI (bH (csB (bk (bH β2) (bK β2) (bC β2) (bN β2) (bF β2)) (sT (σ 2) n (False, i) N2) (sgF (σ 2) n i))))) 4 (nI (bK (csB (bk (bH β2) (bK β2) (bC β2) (bN β2) (bF β2)) (sT (σ 2) n (False, i) N2) (sgF (σ 2) n i)))))) 12 (bC (csB (bk (bH β2) (bK β2) (bC β2) (bN β2) (bF β2)) (sT (σ 2) n (False, i) N2) (sgF (σ 2) n i)))) 13 (bN (csB (bk (bH β2) (bK β2) (bC β2) (bN β2) (bF β2)) (sT (σ 2) n (False, i) N2) (sgF (σ 2) n i)))) 14 (bF (csB (bk (bH β2) (bK β2) (bC β2) (bN β2) (bF β2)) (sT (σ 2) n (False, i) N2) (sgF (σ 2) n i)))) 21 (inW (rdOk (σ 2) n T F (bk h k (σ 8) (σ 9) (σ 10))) wyM (rdR (σ 2) n T F (bk h k (σ 8) (σ 9) (σ 10))).2.2 (σ 21))) 22 (inW (rdOk (σ 2) n T F (bk h k (σ 8) (σ 9) (σ 10))) wyF (rdR (σ 2) n T F (bk h k (σ 8) (σ 9) (σ 10))).2.2 (σ 22))) 23 (inW (rdOk (σ 2) n T F (bk h k (σ 8) (σ 9) (σ 10))) wyW (rdR (σ 2) n T F (bk h k (σ 8) (σ 9) (σ 10))).2.2 (σ 23))) 24 (inW (rdOk (σ 2) n T F (bk h k (σ 8) (σ 9) (σ 10))) wyO (rdR (σ 2) n T F (bk h k (σ 8) (σ 9) (σ 10))).2.2 (σ 24)))) (by rw [rdR_2 hr1 r2_]; rfl : (bF (rdR (σ 2) n T F (bk h k (σ 8) (σ 9) (σ 10))).2.2) = (σ 10)))).trans (congrArg (fun z_ : Nat → Int32 => WC G ad (ua (ua (ua (ua (ua (ua (ua (ua (ua (ua (ua (ua (ua (ua σ 5 (upd (upd (σ 5) 2 (nI (gS (σ 2) n i).2)) 3 0)) 6 (sT (σ 2) n (False, i) N2)) 7 (σ 7)) 8 (σ 8)) 9 (σ 9)) 10 (σ 10)) 11 (upd (upd (σ 11) 3 (nI (bH (csB (bk (bH β2) (bK β2) (bC β2) (bN β2) (bF β2)) (sT (σ 2) n (False, i) N2) (sgF (σ 2) n i))))) 4 (nI (bK (csB (bk (bH β2) (bK β2) (bC β2) (bN β2) (bF β2)) (sT (σ 2) n (False, i) N2) (sgF (σ 2) n i)))))) 12 (bC (csB (bk (bH β2) (bK β2) (bC β2) (bN β2) (bF β2)) (sT (σ 2) n (False, i) N2) (sgF (σ 2) n i)))) 13 (bN (csB (bk (bH β2) (bK β2) (bC β2) (bN β2) (bF β2)) (sT (σ 2) n (False, i) N2) (sgF (σ 2) n i)))) 14 (bF (csB (bk (bH β2) (bK β2) (bC β2) (bN β2) (bF β2)) (sT (σ 2) n (False, i) N2) (sgF (σ 2) n i)))) 21 z_) 22 (inW (rdOk (σ 2) n T F (bk h k (σ 8) (σ 9) (σ 10))) wyF (rdR (σ 2) n T F (bk h k (σ 8) (σ 9) (σ 10))).2.2 (σ 22))) 23 (inW (rdOk (σ 2) n T F (bk h k (σ 8) (σ 9) (σ 10))) wyW (rdR (σ 2) n T F (bk h k (σ 8) (σ 9) (σ 10))).2.2 (σ 23))) 24 (inW (rdOk (σ 2) n T F (bk h k (σ 8) (σ 9) (σ 10))) wyO (rdR (σ 2) n T F (bk h k (σ 8) (σ 9) (σ 10))).2.2 (σ 24)))) (by exact cI_f (rdOk_n r2_) : (inW (rdOk (σ 2) n T F (bk h k (σ 8) (σ 9) (σ 10))) wyM (rdR (σ 2) n T F (bk h k (σ 8) (σ 9) (σ 10))).2.2 (σ 21)) = (σ 21)))).trans (congrArg (fun z_ : Nat → Int32 => WC G ad (ua (ua (ua (ua (ua (ua (ua (ua (ua (ua (ua (ua (ua (ua σ 5 (upd (upd (σ 5) 2 (nI (gS (σ 2) n i).2)) 3 0)) 6 (sT (σ 2) n (False, i) N2)) 7 (σ 7)) 8 (σ 8)) 9 (σ 9)) 10 (σ 10)) 11 (upd (upd (σ 11) 3 (nI (bH (csB (bk (bH β2) (bK β2) (bC β2) (bN β2) (bF β2)) (sT (σ 2) n (False, i) N2) (sgF (σ 2) n i))))) 4 (nI (bK (csB (bk (bH β2) (bK β2) (bC β2) (bN β2) (bF β2)) (sT (σ 2) n (False, i) N2) (sgF (σ 2) n i)))))) 12 (bC (csB (bk (bH β2) (bK β2) (bC β2) (bN β2) (bF β2)) (sT (σ 2) n (False, i) N2) (sgF (σ 2) n i)))) 13 (bN (csB (bk (bH β2) (bK β2) (bC β2) (bN β2) (bF β2)) (sT (σ 2) n (False, i) N2) (sgF (σ 2) n i)))) 14 (bF (csB (bk (bH β2) (bK β2) (bC β2) (bN β2) (bF β2)) (sT (σ 2) n (False, i) N2) (sgF (σ 2) n i)))) 21 (σ 21)) 22 z_) 23 (inW (rdOk (σ 2) n T F (bk h k (σ 8) (σ 9) (σ 10))) wyW (rdR (σ 2) n T F (bk h k (σ 8) (σ 9) (σ 10))).2.2 (σ 23))) 24 (inW (rdOk (σ 2) n T F (bk h k (σ 8) (σ 9) (σ 10))) wyO (rdR (σ 2) n T F (bk h k (σ 8) (σ 9) (σ 10))).2.2 (σ 24)))) (by exact cI_f (rdOk_n r2_) : (inW (rdOk (σ 2) n T F (bk h k (σ 8) (σ 9) (σ 10))) wyF (rdR (σ 2) n T F (bk h k (σ 8) (σ 9) (σ 10))).2.2 (σ 22)) = (σ 22)))).trans (congrArg (fun z_ : Nat → Int32 => WC G ad (ua (ua (ua (ua (ua (ua (ua (ua (ua (ua (ua (ua (ua (ua σ 5 (upd (upd (σ 5) 2 (nI (gS (σ 2) n i).2)) 3 0)) 6 (sT (σ 2) n (False, i) N2)) 7 (σ 7)) 8 (σ 8)) 9 (σ 9)) 10 (σ 10)) 11 (upd (upd (σ 11) 3 (nI (bH (csB (bk (bH β2) (bK β2) (bC β2) (bN β2) (bF β2)) (sT (σ 2) n (False, i) N2) (sgF (σ 2) n i))))) 4 (nI (bK (csB (bk (bH β2) (bK β2) (bC β2) (bN β2) (bF β2)) (sT (σ 2) n (False, i) N2) (sgF (σ 2) n i)))))) 12 (bC (csB (bk (bH β2) (bK β2) (bC β2) (bN β2) (bF β2)) (sT (σ 2) n (False, i) N2) (sgF (σ 2) n i)))) 13 (bN (csB (bk (bH β2) (bK β2) (bC β2) (bN β2) (bF β2)) (sT (σ 2) n (False, i) N2) (sgF (σ 2) n i)))) 14 (bF (csB (bk (bH β2) (bK β2) (bC β2) (bN β2) (bF β2)) (sT (σ 2) n (False, i) N2) (sgF (σ 2) n i)))) 21 (σ 21)) 22 (σ 22)) 23 z_) 24 (inW (rdOk (σ 2) n T F (bk h k (σ 8) (σ 9) (σ 10))) wyO (rdR (σ 2) n T F (bk h k (σ 8) (σ 9) (σ 10))).2.2 (σ 24)))) (by exact cI_f (rdOk_n r2_) : (inW (rdOk (σ 2) n T F (bk h k (σ 8) (σ 9) (σ 10))) wyW (rdR (σ 2) n T F (bk h k (σ 8) (σ 9) (σ 10))).2.2 (σ 23)) = (σ 23)))).trans (congrArg (fun z_ : Nat → Int32 => WC G ad (ua (ua (ua (ua (ua (ua (ua (ua (ua (ua (ua (ua (ua (ua σ 5 (upd (upd (σ 5) 2 (nI (gS (σ 2) n i).2)) 3 0)) 6 (sT (σ 2) n (False, i) N2)) 7 (σ 7)) 8 (σ 8)) 9 (σ 9)) 10 (σ 10)) 11 (upd (upd (σ 11) 3 (nI (bH (csB (bk (bH β2) (bK β2) (bC β2) (bN β2) (bF β2)) (sT (σ 2) n (False, i) N2) (sgF (σ 2) n i))))) 4 (nI (bK (csB (bk (bH β2) (bK β2) (bC β2) (bN β2) (bF β2)) (sT (σ 2) n (False, i) N2) (sgF (σ 2) n i)))))) 12 (bC (csB (bk (bH β2) (bK β2) (bC β2) (bN β2) (bF β2)) (sT (σ 2) n (False, i) N2) (sgF (σ 2) n i)))) 13 (bN (csB (bk (bH β2) (bK β2) (bC β2) (bN β2) (bF β2)) (sT (σ 2) n (False, i) N2) (sgF (σ 2) n i)))) 14 (bF (csB (bk (bH β2) (bK β2) (bC β2) (bN β2) (bF β2)) (sT (σ 2) n (False, i) N2) (sgF (σ 2) n i)))) 21 (σ 21)) 22 (σ 22)) 23 (σ 23)) 24 z_)) (by exact cI_f (rdOk_n r2_) : (inW (rdOk (σ 2) n T F (bk h k (σ 8) (σ 9) (σ 10))) wyO (rdR (σ 2) n T F (bk h k (σ 8) (σ 9) (σ 10))).2.2 (σ 24)) = (σ 24)))).trans (show WC G ad (ua (ua (ua (ua (ua (ua (ua (ua (ua (ua (ua (ua (ua (ua σ 5 (upd (upd (σ 5) 2 (nI (gS (σ 2) n i).2)) 3 0)) 6 (sT (σ 2) n (False, i) N2)) 7 (σ 7)) 8 (σ 8)) 9 (σ 9)) 10 (σ 10)) 11 (upd (upd (σ 11) 3 (nI (bH (csB (bk (bH β2) (bK β2) (bC β2) (bN β2) (bF β2)) (sT (σ 2) n (False, i) N2) (sgF (σ 2) n i))))) 4 (nI (bK (csB (bk (bH β2) (bK β2) (bC β2) (bN β2) (bF β2)) (sT (σ 2) n (False, i) N2) (sgF (σ 2) n i)))))) 12 (bC (csB (bk (bH β2) (bK β2) (bC β2) (bN β2) (bF β2)) (sT (σ 2) n (False, i) N2) (sgF (σ 2) n i)))) 13 (bN (csB (bk (bH β2) (bK β2) (bC β2) (bN β2) (bF β2)) (sT (σ 2) n (False, i) N2) (sgF (σ 2) n i)))) 14 (bF (csB (bk (bH β2) (bK β2) (bC β2) (bN β2) (bF β2)) (sT (σ 2) n (False, i) N2) (sgF (σ 2) n i)))) 21 (σ 21)) 22 (σ 22)) 23 (σ 23)) 24 (σ 24)) = WC G ad (ua (ua (ua (ua (ua (ua σ 5 (upd (upd (σ 5) 2 (nI (gS (σ 2) n i).2)) 3 0)) 6 (sT (σ 2) n (False, i) N2)) 11 (upd (upd (σ 11) 3 (nI (bH (csB (bk (bH β2) (bK β2) (bC β2) (bN β2) (bF β2)) (sT (σ 2) n (False, i) N2) (sgF (σ 2) n i))))) 4 (nI (bK (csB (bk (bH β2) (bK β2) (bC β2) (bN β2) (bF β2)) (sT (σ 2) n (False, i) N2) (sgF (σ 2) n i)))))) 12 (bC (csB (bk (bH β2) (bK β2) (bC β2) (bN β2) (bF β2)) (sT (σ 2) n (False, i) N2) (sgF (σ 2) n i)))) 13 (bN (csB (bk (bH β2) (bK β2) (bC β2) (bN β2) (bF β2)) (sT (σ 2) n (False, i) N2) (sgF (σ 2) n i)))) 14 (bF (csB (bk (bH β2) (bK β2) (bC β2) (bN β2) (bF β2)) (sT (σ 2) n (False, i) N2) (sgF (σ 2) n i)))) from rfl)) dX11_innTold_75
  · exact hH.eq (Eq.trans (show WC G ad (ua (ua (ua (ua (ua σ 5 (upd (upd (σ 5) 2 0) 3 0)) 11 (upd (upd (σ 11) 3 (σ 7 3)) 4 (σ 7 4))) 12 (σ 8)) 13 (σ 9)) 14 (σ 10)) = WC G ad (ua (ua (ua (ua (ua (ua σ 5 (upd (upd (σ 5) 2 0) 3 0)) 6 (σ 6)) 11 (upd (upd (σ 11) 3 (σ 7 3)) 4 (σ 7 4))) 12 (σ 8)) 13 (σ 9)) 14 (σ 10)) from rfl) (((((congrArg (fun z_ : Nat → Int32 => WC G ad (ua (ua (ua (ua (ua (ua σ 5 z_) 6 (σ 6)) 11 (upd (upd (σ 11) 3 (σ 7 3)) 4 (σ 7 4))) 12 (σ 8)) 13 (σ 9)) 14 (σ 10))) (by rfl : (upd (upd (σ 5) 2 0) 3 0) = (upd (upd (σ 5) 2 (nI 0)) 3 0))).trans (congrArg (fun z_ : Nat → Int32 => WC G ad (ua (ua (ua (ua (ua (ua σ 5 (upd (upd (σ 5) 2 (nI 0)) 3 0)) 6 (σ 6)) 11 z_) 12 (σ 8)) 13 (σ 9)) 14 (σ 10))) (by rw [hb3, hb4]; rfl : (upd (upd (σ 11) 3 (σ 7 3)) 4 (σ 7 4)) = (upd (upd (σ 11) 3 (nI (bH (bk h k (σ 8) (σ 9) (σ 10))))) 4 (nI (bK (bk h k (σ 8) (σ 9) (σ 10)))))))).trans (congrArg (fun z_ : Nat → Int32 => WC G ad (ua (ua (ua (ua (ua (ua σ 5 (upd (upd (σ 5) 2 (nI 0)) 3 0)) 6 (σ 6)) 11 (upd (upd (σ 11) 3 (nI (bH (bk h k (σ 8) (σ 9) (σ 10))))) 4 (nI (bK (bk h k (σ 8) (σ 9) (σ 10)))))) 12 z_) 13 (σ 9)) 14 (σ 10))) (by rfl : (σ 8) = (bC (bk h k (σ 8) (σ 9) (σ 10)))))).trans (congrArg (fun z_ : Nat → Int32 => WC G ad (ua (ua (ua (ua (ua (ua σ 5 (upd (upd (σ 5) 2 (nI 0)) 3 0)) 6 (σ 6)) 11 (upd (upd (σ 11) 3 (nI (bH (bk h k (σ 8) (σ 9) (σ 10))))) 4 (nI (bK (bk h k (σ 8) (σ 9) (σ 10)))))) 12 (bC (bk h k (σ 8) (σ 9) (σ 10)))) 13 z_) 14 (σ 10))) (by rfl : (σ 9) = (bN (bk h k (σ 8) (σ 9) (σ 10)))))).trans (congrArg (fun z_ : Nat → Int32 => WC G ad (ua (ua (ua (ua (ua (ua σ 5 (upd (upd (σ 5) 2 (nI 0)) 3 0)) 6 (σ 6)) 11 (upd (upd (σ 11) 3 (nI (bH (bk h k (σ 8) (σ 9) (σ 10))))) 4 (nI (bK (bk h k (σ 8) (σ 9) (σ 10)))))) 12 (bC (bk h k (σ 8) (σ 9) (σ 10)))) 13 (bN (bk h k (σ 8) (σ 9) (σ 10)))) 14 z_)) (by rfl : (σ 10) = (bF (bk h k (σ 8) (σ 9) (σ 10)))))))
  · exact lv_eq (lv_sub hl [1, 0] rfl) (lc_s (lc_i (by rfl : 0 = (nI 0)) rfl))
set_option maxHeartbeats 4000000 in
set_option maxRecDepth 100000 in
theorem k_X11_inn (l : Launch) (G : GP) (ad : Nat → Nat) (σ : Nat → Nat → Int32) (h : Nat) (k : Nat) (n : Nat) (T : Nat → Int32) (F : Nat → Int32) (hb3 : (σ 7 3) = nI h) (hb4 : (σ 7 4) = nI k) (hh4 : h ≤ 4) (hk6 : k ≤ 6) (hkd : KD (σ 9) k) (hn : (σ 1 1) = nI n) (hn80 : n ≤ 80) (hLb : LB (σ 2) n) : CTE l G yX11_inn cX11_inn 3 (some .int) 10 [.ref (ad 0)] (WC G ad σ) (some (.int ((rdR (σ 2) n T F (bk h k (σ 8) (σ 9) (σ 10))).1))) (fun z => WC G ad (ua (ua (ua (ua (ua (ua (ua (ua (ua (ua (ua (ua (ua (ua (ua σ 1 (upd (σ 1) 1 0)) 5 (upd (upd (σ 5) 2 (z 5 2)) 3 (z 5 3))) 6 (z 6)) 7 (upd (upd (σ 7) 3 (nI (bH (rdR (σ 2) n T F (bk h k (σ 8) (σ 9) (σ 10))).2.2))) 4 (nI (bK (rdR (σ 2) n T F (bk h k (σ 8) (σ 9) (σ 10))).2.2)))) 8 (bC (rdR (σ 2) n T F (bk h k (σ 8) (σ 9) (σ 10))).2.2)) 9 (bN (rdR (σ 2) n T F (bk h k (σ 8) (σ 9) (σ 10))).2.2)) 10 (bF (rdR (σ 2) n T F (bk h k (σ 8) (σ 9) (σ 10))).2.2)) 11 (upd (upd (σ 11) 3 (z 11 3)) 4 (z 11 4))) 12 (z 12)) 13 (z 13)) 14 (z 14)) 21 (inW (rdOk (σ 2) n T F (bk h k (σ 8) (σ 9) (σ 10))) wyM (rdR (σ 2) n T F (bk h k (σ 8) (σ 9) (σ 10))).2.2 (σ 21))) 22 (inW (rdOk (σ 2) n T F (bk h k (σ 8) (σ 9) (σ 10))) wyF (rdR (σ 2) n T F (bk h k (σ 8) (σ 9) (σ 10))).2.2 (σ 22))) 23 (inW (rdOk (σ 2) n T F (bk h k (σ 8) (σ 9) (σ 10))) wyW (rdR (σ 2) n T F (bk h k (σ 8) (σ 9) (σ 10))).2.2 (σ 23))) 24 (inW (rdOk (σ 2) n T F (bk h k (σ 8) (σ 9) (σ 10))) wyO (rdR (σ 2) n T F (bk h k (σ 8) (σ 9) (σ 10))).2.2 (σ 24)))) := by
  refine x_methE "BetsOnBets" rfl (by decide +kernel) (fun z => by rfl) (Nat.le_of_ble_eq_true rfl) ?_
  intro pP eE sS mM args below meth cC A ls hC hr hkL hK hZ hA hH hl
  have hx := hC.1
  have hb := hC.2.1
  have hl : lv_has ls 3 [(0, .ref (ad 0))] := hl
  have pwh := pw4 hh4
  have pwk := pw6 hk6
  have ph1 := Nat.one_le_two_pow (n := h)
  refine lv_aload_n hx hb dX11_inn_0 rfl (lv_at hl 0 rfl) ?_
  refine gf_X11_10 (v := .ref (ad 5)) hC hK hH 0 rfl rfl dX11_inn_1 ?_
  refine x_callVE (wg := fun z4 => WC G ad (ua (ua σ 5 (upd (upd (σ 5) 2 (nI (fpA (σ 2) n).2)) 3 (bI (fpA (σ 2) n).1))) 6 (z4 1))) (As := []) (rest := []) (st' := [.int (fpV (σ 2) n)]) hC hK hZ hA hl.1 hH (k_X8_faultPlace l G (pk ad [5, 6, 1, 2]) (pk σ [5, 6, 1, 2]) n hn hn80 hLb) lk_X11_66 [5, 6, 1, 2] rfl rfl (fun _ => rfl) 5 7 rfl rfl rfl ⟨Nat.le_of_ble_eq_true rfl, Nat.le_of_ble_eq_true rfl⟩ ⟨Nat.le_refl _, Nat.le_refl _⟩ (Nat.le_of_ble_eq_true rfl) rfl dX11_inn_4 (fun z4 H locs hH => ?_)
  rcases fp_cs (L := (σ 2)) (n := n) hn80 T with ⟨pl_, hpl_, r1_, e_⟩ | ⟨r1_, e_⟩
  · refine x_topE (y := (nI pl_)) e_ ?_
    refine lv_istore_n (lv' := [(1, .int (nI pl_)), (0, .ref (ad 0))]) hx hb dX11_inn_7 rfl hl (by decide) rfl (fun ls hl => ?_)
    refine lv_iload_n hx hb dX11_inn_8 rfl (lv_at hl 0 rfl) ?_
    refine lv_if_lt (tgt := 20) hx hb dX11_inn_9 (by decide) (fun c9 => ?_) (fun c9 => ?_)
    · exact absurd c9 (nI_pos (by omega))
    refine lv_sipush (v := (-1000)) hx hb dX11_inn_12 (by decide) ?_
    refine lv_iload_n hx hb dX11_inn_15 rfl (lv_at hl 0 rfl) ?_
    refine lv_isub hx hb dX11_inn_16 ?_
    refine lv_goto (tgt := 24) hx hb dX11_inn_17 (by decide) ?_
    refine lv_istore_n (lv' := [(2, .int ((-1000) - (nI pl_))), (1, .int (nI pl_)), (0, .ref (ad 0))]) hx hb dX11_inn_24 rfl hl (by decide) rfl (fun ls hl => ?_)
    refine lv_aload_n hx hb dX11_inn_25 rfl (lv_at hl 2 rfl) ?_
    refine gf_X11_10 (v := .ref (ad 5)) hC hK hH 0 rfl rfl dX11_inn_26 ?_
    refine gf_X11_59 (v := .ref (ad 1)) hC hK hH 5 rfl rfl dX11_inn_29 ?_
    refine x_callV (ws' := WC G ad (ua (ua (ua σ 1 (upd (σ 1) 1 0)) 5 (upd (upd (σ 5) 2 (nI (fpA (σ 2) n).2)) 3 (bI (fpA (σ 2) n).1))) 6 (z4 1))) (As := []) (rest := []) (st' := []) hC hK hZ hA hl.1 hH (k_X9_clear l G 80 (pk ad [1, 2]) (pk (ua (ua σ 5 (upd (upd (σ 5) 2 (nI (fpA (σ 2) n).2)) 3 (bI (fpA (σ 2) n).1))) 6 (z4 1)) [1, 2])) lk_X11_73 [1, 2] rfl rfl rfl 1 8 rfl rfl rfl ⟨Nat.le_of_ble_eq_true rfl, Nat.le_of_ble_eq_true rfl⟩ ⟨Nat.le_refl _, Nat.le_refl _⟩ (Nat.le_of_ble_eq_true rfl) rfl dX11_inn_32 (fun H locs hH => ?_)
    refine lv_iload_n hx hb dX11_inn_35 rfl (lv_at hl 0 rfl) ?_
    exact x_iretE (ua (ua (ua σ 1 (upd (σ 1) 1 0)) 5 (upd (upd (σ 5) 2 (nI (fpA (σ 2) n).2)) 3 (bI (fpA (σ 2) n).1))) 6 (z4 1)) hC hr hkL hH (by rw [rdR_1 r1_]) (((((((((congrArg (fun z_ : Nat → Int32 => WC G ad (ua (ua (ua (ua (ua (ua (ua (ua (ua (ua (ua σ 1 (upd (σ 1) 1 0)) 5 (upd (upd (σ 5) 2 (nI (fpA (σ 2) n).2)) 3 (bI (fpA (σ 2) n).1))) 6 (z4 1)) 7 z_) 8 (bC (rdR (σ 2) n T F (bk h k (σ 8) (σ 9) (σ 10))).2.2)) 9 (bN (rdR (σ 2) n T F (bk h k (σ 8) (σ 9) (σ 10))).2.2)) 10 (bF (rdR (σ 2) n T F (bk h k (σ 8) (σ 9) (σ 10))).2.2)) 21 (inW (rdOk (σ 2) n T F (bk h k (σ 8) (σ 9) (σ 10))) wyM (rdR (σ 2) n T F (bk h k (σ 8) (σ 9) (σ 10))).2.2 (σ 21))) 22 (inW (rdOk (σ 2) n T F (bk h k (σ 8) (σ 9) (σ 10))) wyF (rdR (σ 2) n T F (bk h k (σ 8) (σ 9) (σ 10))).2.2 (σ 22))) 23 (inW (rdOk (σ 2) n T F (bk h k (σ 8) (σ 9) (σ 10))) wyW (rdR (σ 2) n T F (bk h k (σ 8) (σ 9) (σ 10))).2.2 (σ 23))) 24 (inW (rdOk (σ 2) n T F (bk h k (σ 8) (σ 9) (σ 10))) wyO (rdR (σ 2) n T F (bk h k (σ 8) (σ 9) (σ 10))).2.2 (σ 24)))) (by rw [rdR_1 r1_]; exact upd2_id hb3.symm hb4.symm : (upd (upd (σ 7) 3 (nI (bH (rdR (σ 2) n T F (bk h k (σ 8) (σ 9) (σ 10))).2.2))) 4 (nI (bK (rdR (σ 2) n T F (bk h k (σ 8) (σ 9) (σ 10))).2.2))) = (σ 7))).trans (congrArg (fun z_ : Nat → Int32 => WC G ad (ua (ua (ua (ua (ua (ua (ua (ua (ua (ua (ua σ 1 (upd (σ 1) 1 0)) 5 (upd (upd (σ 5) 2 (nI (fpA (σ 2) n).2)) 3 (bI (fpA (σ 2) n).1))) 6 (z4 1)) 7 (σ 7)) 8 z_) 9 (bN (rdR (σ 2) n T F (bk h k (σ 8) (σ 9) (σ 10))).2.2)) 10 (bF (rdR (σ 2) n T F (bk h k (σ 8) (σ 9) (σ 10))).2.2)) 21 (inW (rdOk (σ 2) n T F (bk h k (σ 8) (σ 9) (σ 10))) wyM (rdR (σ 2) n T F (bk h k (σ 8) (σ 9) (σ 10))).2.2 (σ 21))) 22 (inW (rdOk (σ 2) n T F (bk h k (σ 8) (σ 9) (σ 10))) wyF (rdR (σ 2) n T F (bk h k (σ 8) (σ 9) (σ 10))).2.2 (σ 22))) 23 (inW (rdOk (σ 2) n T F (bk h k (σ 8) (σ 9) (σ 10))) wyW (rdR (σ 2) n T F (bk h k (σ 8) (σ 9) (σ 10))).2.2 (σ 23))) 24 (inW (rdOk (σ 2) n T F (bk h k (σ 8) (σ 9) (σ 10))) wyO (rdR (σ 2) n T F (bk h k (σ 8) (σ 9) (σ 10))).2.2 (σ 24)))) (by rw [rdR_1 r1_]; rfl : (bC (rdR (σ 2) n T F (bk h k (σ 8) (σ 9) (σ 10))).2.2) = (σ 8)))).trans (congrArg (fun z_ : Nat → Int32 => WC G ad (ua (ua (ua (ua (ua (ua (ua (ua (ua (ua (ua σ 1 (upd (σ 1) 1 0)) 5 (upd (upd (σ 5) 2 (nI (fpA (σ 2) n).2)) 3 (bI (fpA (σ 2) n).1))) 6 (z4 1)) 7 (σ 7)) 8 (σ 8)) 9 z_) 10 (bF (rdR (σ 2) n T F (bk h k (σ 8) (σ 9) (σ 10))).2.2)) 21 (inW (rdOk (σ 2) n T F (bk h k (σ 8) (σ 9) (σ 10))) wyM (rdR (σ 2) n T F (bk h k (σ 8) (σ 9) (σ 10))).2.2 (σ 21))) 22 (inW (rdOk (σ 2) n T F (bk h k (σ 8) (σ 9) (σ 10))) wyF (rdR (σ 2) n T F (bk h k (σ 8) (σ 9) (σ 10))).2.2 (σ 22))) 23 (inW (rdOk (σ 2) n T F (bk h k (σ 8) (σ 9) (σ 10))) wyW (rdR (σ 2) n T F (bk h k (σ 8) (σ 9) (σ 10))).2.2 (σ 23))) 24 (inW (rdOk (σ 2) n T F (bk h k (σ 8) (σ 9) (σ 10))) wyO (rdR (σ 2) n T F (bk h k (σ 8) (σ 9) (σ 10))).2.2 (σ 24)))) (by rw [rdR_1 r1_]; rfl : (bN (rdR (σ 2) n T F (bk h k (σ 8) (σ 9) (σ 10))).2.2) = (σ 9)))).trans (congrArg (fun z_ : Nat → Int32 => WC G ad (ua (ua (ua (ua (ua (ua (ua (ua (ua (ua (ua σ 1 (upd (σ 1) 1 0)) 5 (upd (upd (σ 5) 2 (nI (fpA (σ 2) n).2)) 3 (bI (fpA (σ 2) n).1))) 6 (z4 1)) 7 (σ 7)) 8 (σ 8)) 9 (σ 9)) 10 z_) 21 (inW (rdOk (σ 2) n T F (bk h k (σ 8) (σ 9) (σ 10))) wyM (rdR (σ 2) n T F (bk h k (σ 8) (σ 9) (σ 10))).2.2 (σ 21))) 22 (inW (rdOk (σ 2) n T F (bk h k (σ 8) (σ 9) (σ 10))) wyF (rdR (σ 2) n T F (bk h k (σ 8) (σ 9) (σ 10))).2.2 (σ 22))) 23 (inW (rdOk (σ 2) n T F (bk h k (σ 8) (σ 9) (σ 10))) wyW (rdR (σ 2) n T F (bk h k (σ 8) (σ 9) (σ 10))).2.2 (σ 23))) 24 (inW (rdOk (σ 2) n T F (bk h k (σ 8) (σ 9) (σ 10))) wyO (rdR (σ 2) n T F (bk h k (σ 8) (σ 9) (σ 10))).2.2 (σ 24)))) (by rw [rdR_1 r1_]; rfl : (bF (rdR (σ 2) n T F (bk h k (σ 8) (σ 9) (σ 10))).2.2) = (σ 10)))).trans (congrArg (fun z_ : Nat → Int32 => WC G ad (ua (ua (ua (ua (ua (ua (ua (ua (ua (ua (ua σ 1 (upd (σ 1) 1 0)) 5 (upd (upd (σ 5) 2 (nI (fpA (σ 2) n).2)) 3 (bI (fpA (σ 2) n).1))) 6 (z4 1)) 7 (σ 7)) 8 (σ 8)) 9 (σ 9)) 10 (σ 10)) 21 z_) 22 (inW (rdOk (σ 2) n T F (bk h k (σ 8) (σ 9) (σ 10))) wyF (rdR (σ 2) n T F (bk h k (σ 8) (σ 9) (σ 10))).2.2 (σ 22))) 23 (inW (rdOk (σ 2) n T F (bk h k (σ 8) (σ 9) (σ 10))) wyW (rdR (σ 2) n T F (bk h k (σ 8) (σ 9) (σ 10))).2.2 (σ 23))) 24 (inW (rdOk (σ 2) n T F (bk h k (σ 8) (σ 9) (σ 10))) wyO (rdR (σ 2) n T F (bk h k (σ 8) (σ 9) (σ 10))).2.2 (σ 24)))) (by exact cI_f (rdOk_m r1_) : (inW (rdOk (σ 2) n T F (bk h k (σ 8) (σ 9) (σ 10))) wyM (rdR (σ 2) n T F (bk h k (σ 8) (σ 9) (σ 10))).2.2 (σ 21)) = (σ 21)))).trans (congrArg (fun z_ : Nat → Int32 => WC G ad (ua (ua (ua (ua (ua (ua (ua (ua (ua (ua (ua σ 1 (upd (σ 1) 1 0)) 5 (upd (upd (σ 5) 2 (nI (fpA (σ 2) n).2)) 3 (bI (fpA (σ 2) n).1))) 6 (z4 1)) 7 (σ 7)) 8 (σ 8)) 9 (σ 9)) 10 (σ 10)) 21 (σ 21)) 22 z_) 23 (inW (rdOk (σ 2) n T F (bk h k (σ 8) (σ 9) (σ 10))) wyW (rdR (σ 2) n T F (bk h k (σ 8) (σ 9) (σ 10))).2.2 (σ 23))) 24 (inW (rdOk (σ 2) n T F (bk h k (σ 8) (σ 9) (σ 10))) wyO (rdR (σ 2) n T F (bk h k (σ 8) (σ 9) (σ 10))).2.2 (σ 24)))) (by exact cI_f (rdOk_m r1_) : (inW (rdOk (σ 2) n T F (bk h k (σ 8) (σ 9) (σ 10))) wyF (rdR (σ 2) n T F (bk h k (σ 8) (σ 9) (σ 10))).2.2 (σ 22)) = (σ 22)))).trans (congrArg (fun z_ : Nat → Int32 => WC G ad (ua (ua (ua (ua (ua (ua (ua (ua (ua (ua (ua σ 1 (upd (σ 1) 1 0)) 5 (upd (upd (σ 5) 2 (nI (fpA (σ 2) n).2)) 3 (bI (fpA (σ 2) n).1))) 6 (z4 1)) 7 (σ 7)) 8 (σ 8)) 9 (σ 9)) 10 (σ 10)) 21 (σ 21)) 22 (σ 22)) 23 z_) 24 (inW (rdOk (σ 2) n T F (bk h k (σ 8) (σ 9) (σ 10))) wyO (rdR (σ 2) n T F (bk h k (σ 8) (σ 9) (σ 10))).2.2 (σ 24)))) (by exact cI_f (rdOk_m r1_) : (inW (rdOk (σ 2) n T F (bk h k (σ 8) (σ 9) (σ 10))) wyW (rdR (σ 2) n T F (bk h k (σ 8) (σ 9) (σ 10))).2.2 (σ 23)) = (σ 23)))).trans (congrArg (fun z_ : Nat → Int32 => WC G ad (ua (ua (ua (ua (ua (ua (ua (ua (ua (ua (ua σ 1 (upd (σ 1) 1 0)) 5 (upd (upd (σ 5) 2 (nI (fpA (σ 2) n).2)) 3 (bI (fpA (σ 2) n).1))) 6 (z4 1)) 7 (σ 7)) 8 (σ 8)) 9 (σ 9)) 10 (σ 10)) 21 (σ 21)) 22 (σ 22)) 23 (σ 23)) 24 z_)) (by exact cI_f (rdOk_m r1_) : (inW (rdOk (σ 2) n T F (bk h k (σ 8) (σ 9) (σ 10))) wyO (rdR (σ 2) n T F (bk h k (σ 8) (σ 9) (σ 10))).2.2 (σ 24)) = (σ 24)))).trans (show WC G ad (ua (ua (ua (ua (ua (ua (ua (ua (ua (ua (ua σ 1 (upd (σ 1) 1 0)) 5 (upd (upd (σ 5) 2 (nI (fpA (σ 2) n).2)) 3 (bI (fpA (σ 2) n).1))) 6 (z4 1)) 7 (σ 7)) 8 (σ 8)) 9 (σ 9)) 10 (σ 10)) 21 (σ 21)) 22 (σ 22)) 23 (σ 23)) 24 (σ 24)) = WC G ad (ua (ua (ua σ 1 (upd (σ 1) 1 0)) 5 (upd (upd (σ 5) 2 (nI (fpA (σ 2) n).2)) 3 (bI (fpA (σ 2) n).1))) 6 (z4 1)) from rfl)) dX11_inn_36
  · refine x_topE (y := (-9)) e_ ?_
    refine lv_istore_n (lv' := [(1, .int (-9)), (0, .ref (ad 0))]) hx hb dX11_inn_7 rfl hl (by decide) rfl (fun ls hl => ?_)
    refine lv_iload_n hx hb dX11_inn_8 rfl (lv_at hl 0 rfl) ?_
    refine lv_if_lt (tgt := 20) hx hb dX11_inn_9 (by decide) (fun c9 => ?_) (fun c9 => ?_)
    rotate_left
    · exact absurd c9 (by decide)
    refine lv_aload_n hx hb dX11_inn_20 rfl (lv_at hl 1 rfl) ?_
    refine x_callVAE (wg := fun z21 => WC G ad (ua (ua (ua (ua (ua (ua (ua (ua (ua (ua (ua (ua (ua (ua σ 5 (upd (upd (σ 5) 2 (z21 5 2)) 3 (z21 5 3))) 6 (z21 6)) 7 (upd (upd (σ 7) 3 (nI (bH (rdR (σ 2) n T F (bk h k (σ 8) (σ 9) (σ 10))).2.2))) 4 (nI (bK (rdR (σ 2) n T F (bk h k (σ 8) (σ 9) (σ 10))).2.2)))) 8 (bC (rdR (σ 2) n T F (bk h k (σ 8) (σ 9) (σ 10))).2.2)) 9 (bN (rdR (σ 2) n T F (bk h k (σ 8) (σ 9) (σ 10))).2.2)) 10 (bF (rdR (σ 2) n T F (bk h k (σ 8) (σ 9) (σ 10))).2.2)) 11 (upd (upd (σ 11) 3 (z21 11 3)) 4 (z21 11 4))) 12 (z21 12)) 13 (z21 13)) 14 (z21 14)) 21 (inW (rdOk (σ 2) n T F (bk h k (σ 8) (σ 9) (σ 10))) wyM (rdR (σ 2) n T F (bk h k (σ 8) (σ 9) (σ 10))).2.2 (σ 21))) 22 (inW (rdOk (σ 2) n T F (bk h k (σ 8) (σ 9) (σ 10))) wyF (rdR (σ 2) n T F (bk h k (σ 8) (σ 9) (σ 10))).2.2 (σ 22))) 23 (inW (rdOk (σ 2) n T F (bk h k (σ 8) (σ 9) (σ 10))) wyW (rdR (σ 2) n T F (bk h k (σ 8) (σ 9) (σ 10))).2.2 (σ 23))) 24 (inW (rdOk (σ 2) n T F (bk h k (σ 8) (σ 9) (σ 10))) wyO (rdR (σ 2) n T F (bk h k (σ 8) (σ 9) (σ 10))).2.2 (σ 24)))) (As := []) (rest := []) (st' := [.int ((rdR (σ 2) n T F (bk h k (σ 8) (σ 9) (σ 10))).1)]) hC hK hZ hA hl.1 hH (k_X11_innTold l G ad (ua (ua σ 5 (upd (upd (σ 5) 2 (nI (fpA (σ 2) n).2)) 3 (bI (fpA (σ 2) n).1))) 6 (z4 1)) h k n T F hb3 hb4 hh4 hk6 hkd hn hn80 hLb r1_) lk_X11_70 rfl 0 10 rfl rfl rfl ⟨Nat.le_of_ble_eq_true rfl, Nat.le_of_ble_eq_true rfl⟩ ⟨Nat.le_refl _, Nat.le_refl _⟩ (Nat.le_of_ble_eq_true rfl) rfl dX11_inn_21 (fun z21 H locs hH => ?_)
    refine lv_istore_n (lv' := [(2, .int ((rdR (σ 2) n T F (bk h k (σ 8) (σ 9) (σ 10))).1)), (1, .int (-9)), (0, .ref (ad 0))]) hx hb dX11_inn_24 rfl hl (by decide) rfl (fun ls hl => ?_)
    refine lv_aload_n hx hb dX11_inn_25 rfl (lv_at hl 2 rfl) ?_
    refine gf_X11_10 (v := .ref (ad 5)) hC hK hH 0 rfl rfl dX11_inn_26 ?_
    refine gf_X11_59 (v := .ref (ad 1)) hC hK hH 5 rfl rfl dX11_inn_29 ?_
    refine x_callV (ws' := WC G ad (ua (ua (ua (ua (ua (ua (ua (ua (ua (ua (ua (ua (ua (ua (ua σ 1 (upd (σ 1) 1 0)) 5 (upd (upd (σ 5) 2 (z21 5 2)) 3 (z21 5 3))) 6 (z21 6)) 7 (upd (upd (σ 7) 3 (nI (bH (rdR (σ 2) n T F (bk h k (σ 8) (σ 9) (σ 10))).2.2))) 4 (nI (bK (rdR (σ 2) n T F (bk h k (σ 8) (σ 9) (σ 10))).2.2)))) 8 (bC (rdR (σ 2) n T F (bk h k (σ 8) (σ 9) (σ 10))).2.2)) 9 (bN (rdR (σ 2) n T F (bk h k (σ 8) (σ 9) (σ 10))).2.2)) 10 (bF (rdR (σ 2) n T F (bk h k (σ 8) (σ 9) (σ 10))).2.2)) 11 (upd (upd (σ 11) 3 (z21 11 3)) 4 (z21 11 4))) 12 (z21 12)) 13 (z21 13)) 14 (z21 14)) 21 (inW (rdOk (σ 2) n T F (bk h k (σ 8) (σ 9) (σ 10))) wyM (rdR (σ 2) n T F (bk h k (σ 8) (σ 9) (σ 10))).2.2 (σ 21))) 22 (inW (rdOk (σ 2) n T F (bk h k (σ 8) (σ 9) (σ 10))) wyF (rdR (σ 2) n T F (bk h k (σ 8) (σ 9) (σ 10))).2.2 (σ 22))) 23 (inW (rdOk (σ 2) n T F (bk h k (σ 8) (σ 9) (σ 10))) wyW (rdR (σ 2) n T F (bk h k (σ 8) (σ 9) (σ 10))).2.2 (σ 23))) 24 (inW (rdOk (σ 2) n T F (bk h k (σ 8) (σ 9) (σ 10))) wyO (rdR (σ 2) n T F (bk h k (σ 8) (σ 9) (σ 10))).2.2 (σ 24)))) (As := []) (rest := []) (st' := []) hC hK hZ hA hl.1 hH (k_X9_clear l G 80 (pk ad [1, 2]) (pk (ua (ua (ua (ua (ua (ua (ua (ua (ua (ua (ua (ua (ua (ua σ 5 (upd (upd (σ 5) 2 (z21 5 2)) 3 (z21 5 3))) 6 (z21 6)) 7 (upd (upd (σ 7) 3 (nI (bH (rdR (σ 2) n T F (bk h k (σ 8) (σ 9) (σ 10))).2.2))) 4 (nI (bK (rdR (σ 2) n T F (bk h k (σ 8) (σ 9) (σ 10))).2.2)))) 8 (bC (rdR (σ 2) n T F (bk h k (σ 8) (σ 9) (σ 10))).2.2)) 9 (bN (rdR (σ 2) n T F (bk h k (σ 8) (σ 9) (σ 10))).2.2)) 10 (bF (rdR (σ 2) n T F (bk h k (σ 8) (σ 9) (σ 10))).2.2)) 11 (upd (upd (σ 11) 3 (z21 11 3)) 4 (z21 11 4))) 12 (z21 12)) 13 (z21 13)) 14 (z21 14)) 21 (inW (rdOk (σ 2) n T F (bk h k (σ 8) (σ 9) (σ 10))) wyM (rdR (σ 2) n T F (bk h k (σ 8) (σ 9) (σ 10))).2.2 (σ 21))) 22 (inW (rdOk (σ 2) n T F (bk h k (σ 8) (σ 9) (σ 10))) wyF (rdR (σ 2) n T F (bk h k (σ 8) (σ 9) (σ 10))).2.2 (σ 22))) 23 (inW (rdOk (σ 2) n T F (bk h k (σ 8) (σ 9) (σ 10))) wyW (rdR (σ 2) n T F (bk h k (σ 8) (σ 9) (σ 10))).2.2 (σ 23))) 24 (inW (rdOk (σ 2) n T F (bk h k (σ 8) (σ 9) (σ 10))) wyO (rdR (σ 2) n T F (bk h k (σ 8) (σ 9) (σ 10))).2.2 (σ 24))) [1, 2])) lk_X11_73 [1, 2] rfl rfl rfl 1 8 rfl rfl rfl ⟨Nat.le_of_ble_eq_true rfl, Nat.le_of_ble_eq_true rfl⟩ ⟨Nat.le_refl _, Nat.le_refl _⟩ (Nat.le_of_ble_eq_true rfl) rfl dX11_inn_32 (fun H locs hH => ?_)
    refine lv_iload_n hx hb dX11_inn_35 rfl (lv_at hl 0 rfl) ?_
    exact x_iretE (ua (ua (ua (ua (ua (ua (ua (ua (ua (ua (ua (ua (ua (ua (ua σ 1 (upd (σ 1) 1 0)) 5 (upd (upd (σ 5) 2 (z21 5 2)) 3 (z21 5 3))) 6 (z21 6)) 7 (upd (upd (σ 7) 3 (nI (bH (rdR (σ 2) n T F (bk h k (σ 8) (σ 9) (σ 10))).2.2))) 4 (nI (bK (rdR (σ 2) n T F (bk h k (σ 8) (σ 9) (σ 10))).2.2)))) 8 (bC (rdR (σ 2) n T F (bk h k (σ 8) (σ 9) (σ 10))).2.2)) 9 (bN (rdR (σ 2) n T F (bk h k (σ 8) (σ 9) (σ 10))).2.2)) 10 (bF (rdR (σ 2) n T F (bk h k (σ 8) (σ 9) (σ 10))).2.2)) 11 (upd (upd (σ 11) 3 (z21 11 3)) 4 (z21 11 4))) 12 (z21 12)) 13 (z21 13)) 14 (z21 14)) 21 (inW (rdOk (σ 2) n T F (bk h k (σ 8) (σ 9) (σ 10))) wyM (rdR (σ 2) n T F (bk h k (σ 8) (σ 9) (σ 10))).2.2 (σ 21))) 22 (inW (rdOk (σ 2) n T F (bk h k (σ 8) (σ 9) (σ 10))) wyF (rdR (σ 2) n T F (bk h k (σ 8) (σ 9) (σ 10))).2.2 (σ 22))) 23 (inW (rdOk (σ 2) n T F (bk h k (σ 8) (σ 9) (σ 10))) wyW (rdR (σ 2) n T F (bk h k (σ 8) (σ 9) (σ 10))).2.2 (σ 23))) 24 (inW (rdOk (σ 2) n T F (bk h k (σ 8) (σ 9) (σ 10))) wyO (rdR (σ 2) n T F (bk h k (σ 8) (σ 9) (σ 10))).2.2 (σ 24))) hC hr hkL hH rfl rfl dX11_inn_36
