/-! the reference: letters become an INN -/
def sgF (L : Nat → Int32) (n i : Nat) : Int32 := if i < n then L i else -1
theorem sg_lt {L : Nat → Int32} {n i : Nat} {c : Int32} (h : sgF L n i = c) (hc : ¬ c = -1) : i < n := by
  by_cases q : i < n
  · exact q
  · exact absurd (h.symm.trans (if_neg q)) hc
def dgP (s : Int32) : Prop := 0 ≤ s - 48 ∧ s - 48 < 10
theorem dg_lt {L : Nat → Int32} {n i : Nat} (h : dgP (sgF L n i)) : i < n := by
  by_cases q : i < n
  · exact q
  · rw [sgF, if_neg q] at h; exact absurd h (by unfold dgP; decide)
noncomputable def rdC (L : Nat → Int32) (n i : Nat) : Nat → Nat
  | 0 => 0
  | m + 1 => cI (rdC L n i m = m ∧ dgP (sgF L n (i + m))) (m + 1) (rdC L n i m)
def rdV (L : Nat → Int32) (n i : Nat) : Nat → Int32
  | 0 => 0
  | c + 1 => 10 * rdV L n i c + sgF L n (i + c) - 48
theorem rdC_le (L : Nat → Int32) (n i : Nat) : ∀ m, rdC L n i m ≤ m := by
  intro m
  induction m with
  | zero => exact Nat.le_refl 0
  | succ m ih =>
    by_cases h : rdC L n i m = m ∧ dgP (sgF L n (i + m))
    · rw [rdC, cI_t h]; exact Nat.le_refl _
    · rw [rdC, cI_f h]; omega
theorem rdC_go {L : Nat → Int32} {n i c : Nat} (h : rdC L n i c = c) (h2 : dgP (sgF L n (i + c))) : rdC L n i (c + 1) = c + 1 := cI_t ⟨h, h2⟩
theorem rdC_stop {L : Nat → Int32} {n i c : Nat} (h : rdC L n i c = c) (h2 : ¬ dgP (sgF L n (i + c))) : ∀ m, c ≤ m → rdC L n i m = c := by
  intro m hm
  induction m with
  | zero => rw [show c = 0 by omega]; rfl
  | succ m ih =>
    by_cases e : c = m + 1
    · rw [← e]; exact h
    · have i1 := ih (by omega)
      rw [rdC, cI_f]
      · exact i1
      · intro z
        have : c = m := i1.symm.trans z.1
        subst this
        exact h2 z.2
theorem rdC_lt (L : Nat → Int32) (n i : Nat) : ∀ m, i ≤ n → i + rdC L n i m ≤ n := by
  intro m hi
  induction m with
  | zero => exact hi
  | succ m ih =>
    by_cases h : rdC L n i m = m ∧ dgP (sgF L n (i + m))
    · rw [rdC, cI_t h]; have := dg_lt h.2; omega
    · rw [rdC, cI_f h]; exact ih
abbrev Pg : Type := Prop × Nat
noncomputable def gN (L : Nat → Int32) (n m i : Nat) : Pg := (0 < rdC L n i m, i + rdC L n i m)
noncomputable def tN (L : Nat → Int32) (n k m i : Nat) (T : Nat → Int32) : Nat → Int32 := upd T k (rdV L n i (rdC L n i m))
def gT (L : Nat → Int32) (n : Nat) (c : Int32) (i : Nat) : Pg := (sgF L n i = c, if sgF L n i = c then i + 1 else i)
def kdF (c : Int32) : Int32 := if c = 112 then 0 else if c = 97 then 1 else if c = 111 then 2 else if c = 101 then 3 else if c = 120 then 4 else if c = 110 then 5 else -9
def gK (L : Nat → Int32) (n i : Nat) : Pg := (0 ≤ kdF (sgF L n i), if 0 ≤ kdF (sgF L n i) then i + 1 else i)
def tK (L : Nat → Int32) (n i : Nat) (T : Nat → Int32) : Nat → Int32 := upd T 0 (kdF (sgF L n i))
noncomputable def gM (L : Nat → Int32) (n i : Nat) : Pg := if sgF L n i = 98 ∨ sgF L n i = 104 then gN L n 1 (i + 1) else (False, i)
noncomputable def tM (L : Nat → Int32) (n k i : Nat) (T : Nat → Int32) : Nat → Int32 := if sgF L n i = 98 ∨ sgF L n i = 104 then cI (gN L n 1 (i + 1)).1 (upd (tN L n k 1 (i + 1) T) k (tN L n k 1 (i + 1) T k + (if sgF L n i = 98 then 10 else 0))) (tN L n k 1 (i + 1) T) else T
noncomputable def u1 (L : Nat → Int32) (n i : Nat) : Pg := gK L n i
noncomputable def u2 (L : Nat → Int32) (n i : Nat) : Pg := gM L n (u1 L n i).2
noncomputable def u3 (L : Nat → Int32) (n i : Nat) : Pg := gM L n (u2 L n i).2
noncomputable def u4 (L : Nat → Int32) (n i : Nat) : Pg := gN L n 2 (u3 L n i).2
noncomputable def u5 (L : Nat → Int32) (n i : Nat) : Pg := gT L n 44 (u4 L n i).2
noncomputable def u6 (L : Nat → Int32) (n i : Nat) : Pg := gN L n 1 (u5 L n i).2
noncomputable def u7 (L : Nat → Int32) (n i : Nat) : Pg := gN L n 1 (u6 L n i).2
noncomputable def u8 (L : Nat → Int32) (n i : Nat) : Pg := gN L n 1 (u7 L n i).2
noncomputable def v1 (L : Nat → Int32) (n i : Nat) (T : Nat → Int32) : Nat → Int32 := tK L n i T
noncomputable def v2 (L : Nat → Int32) (n i : Nat) (T : Nat → Int32) : Nat → Int32 := tM L n 1 (u1 L n i).2 (v1 L n i T)
noncomputable def v3 (L : Nat → Int32) (n i : Nat) (T : Nat → Int32) : Nat → Int32 := tM L n 2 (u2 L n i).2 (v2 L n i T)
noncomputable def v4 (L : Nat → Int32) (n i : Nat) (T : Nat → Int32) : Nat → Int32 := tN L n 3 2 (u3 L n i).2 (v3 L n i T)
noncomputable def v6 (L : Nat → Int32) (n i : Nat) (T : Nat → Int32) : Nat → Int32 := tN L n 4 1 (u5 L n i).2 (v4 L n i T)
noncomputable def v7 (L : Nat → Int32) (n i : Nat) (T : Nat → Int32) : Nat → Int32 := tN L n 5 1 (u6 L n i).2 (v6 L n i T)
noncomputable def v8 (L : Nat → Int32) (n i : Nat) (T : Nat → Int32) : Nat → Int32 := tN L n 6 1 (u7 L n i).2 (v7 L n i T)
noncomputable def h98 {α : Type} (L : Nat → Int32) (n i : Nat) (a1 a2 a3 a4 a5 a6 a7 a8 : α) : α := cI (u1 L n i).1 (cI (u2 L n i).1 (cI (u3 L n i).1 (cI (u4 L n i).1 (cI (u5 L n i).1 (cI (u6 L n i).1 (cI (u7 L n i).1 a8 a7) a6) a5) a4) a3) a2) a1
noncomputable def c98 (L : Nat → Int32) (n i : Nat) : Pg := h98 L n i (u1 L n i) (u2 L n i) (u3 L n i) (u4 L n i) (u5 L n i) (u6 L n i) (u7 L n i) (u8 L n i)
noncomputable def t98 (L : Nat → Int32) (n i : Nat) (T : Nat → Int32) : Nat → Int32 := h98 L n i (v1 L n i T) (v2 L n i T) (v3 L n i T) (v4 L n i T) (v4 L n i T) (v6 L n i T) (v7 L n i T) (v8 L n i T)
noncomputable def w1 (L : Nat → Int32) (n i : Nat) : Pg := gN L n 1 i
noncomputable def w2 (L : Nat → Int32) (n i : Nat) : Pg := gT L n 44 (w1 L n i).2
noncomputable def w3 (L : Nat → Int32) (n i : Nat) : Pg := gN L n 2 (w2 L n i).2
noncomputable def x1 (L : Nat → Int32) (n i : Nat) (T : Nat → Int32) : Nat → Int32 := tN L n 0 1 i T
noncomputable def x3 (L : Nat → Int32) (n i : Nat) (T : Nat → Int32) : Nat → Int32 := tN L n 1 2 (w2 L n i).2 (x1 L n i T)
noncomputable def h102 {α : Type} (L : Nat → Int32) (n i : Nat) (a1 a2 a3 : α) : α := cI (w1 L n i).1 (cI (w2 L n i).1 a3 a2) a1
noncomputable def c102 (L : Nat → Int32) (n i : Nat) : Pg := h102 L n i (w1 L n i) (w2 L n i) (w3 L n i)
noncomputable def t102 (L : Nat → Int32) (n i : Nat) (T : Nat → Int32) : Nat → Int32 := h102 L n i (x1 L n i T) (x1 L n i T) (x3 L n i T)
noncomputable def fin (L : Nat → Int32) (n : Nat) (a : Pg) : Pg := cI a.1 (gT L n 59 a.2) a
noncomputable def gS (L : Nat → Int32) (n i : Nat) : Pg := if sgF L n i = 104 then fin L n (gN L n 2 (i + 1)) else if sgF L n i = 98 then fin L n (c98 L n (i + 1)) else if sgF L n i = 102 then fin L n (c102 L n (i + 1)) else (False, i)
noncomputable def tS (L : Nat → Int32) (n i : Nat) (T : Nat → Int32) : Nat → Int32 := if sgF L n i = 104 then tN L n 0 2 (i + 1) T else if sgF L n i = 98 then t98 L n (i + 1) T else if sgF L n i = 102 then t102 L n (i + 1) T else T
theorem gN_le {L : Nat → Int32} {n m i : Nat} (h : i ≤ n) : (gN L n m i).2 ≤ n := rdC_lt L n i m h
theorem gT_le {L : Nat → Int32} {n i : Nat} {c : Int32} (hc : ¬ c = -1) (h : i ≤ n) : (gT L n c i).2 ≤ n := by
  unfold gT
  by_cases q : sgF L n i = c
  · show (if sgF L n i = c then i + 1 else i) ≤ n
    rw [if_pos q]; exact sg_lt q hc
  · show (if sgF L n i = c then i + 1 else i) ≤ n
    rw [if_neg q]; exact h
theorem kdF_n : ¬ 0 ≤ kdF (-1) := by decide
theorem gK_le {L : Nat → Int32} {n i : Nat} (h : i ≤ n) : (gK L n i).2 ≤ n := by
  unfold gK
  by_cases q : 0 ≤ kdF (sgF L n i)
  · show (if 0 ≤ kdF (sgF L n i) then i + 1 else i) ≤ n
    rw [if_pos q]
    by_cases z : i < n
    · exact z
    · rw [sgF, if_neg z] at q; exact absurd q kdF_n
  · show (if 0 ≤ kdF (sgF L n i) then i + 1 else i) ≤ n
    rw [if_neg q]; exact h
theorem gM_le {L : Nat → Int32} {n i : Nat} (h : i ≤ n) : (gM L n i).2 ≤ n := by
  unfold gM
  by_cases q : sgF L n i = 98 ∨ sgF L n i = 104
  · rw [if_pos q]
    exact gN_le (q.elim (fun z => sg_lt z (by decide)) (fun z => sg_lt z (by decide)))
  · rw [if_neg q]; exact h
theorem u1_le {L : Nat → Int32} {n i : Nat} (h : i ≤ n) : (u1 L n i).2 ≤ n := gK_le h
theorem u2_le {L : Nat → Int32} {n i : Nat} (h : i ≤ n) : (u2 L n i).2 ≤ n := gM_le (u1_le h)
theorem u3_le {L : Nat → Int32} {n i : Nat} (h : i ≤ n) : (u3 L n i).2 ≤ n := gM_le (u2_le h)
theorem u4_le {L : Nat → Int32} {n i : Nat} (h : i ≤ n) : (u4 L n i).2 ≤ n := gN_le (u3_le h)
theorem u5_le {L : Nat → Int32} {n i : Nat} (h : i ≤ n) : (u5 L n i).2 ≤ n := gT_le (by decide) (u4_le h)
theorem u6_le {L : Nat → Int32} {n i : Nat} (h : i ≤ n) : (u6 L n i).2 ≤ n := gN_le (u5_le h)
theorem u7_le {L : Nat → Int32} {n i : Nat} (h : i ≤ n) : (u7 L n i).2 ≤ n := gN_le (u6_le h)
theorem u8_le {L : Nat → Int32} {n i : Nat} (h : i ≤ n) : (u8 L n i).2 ≤ n := gN_le (u7_le h)
theorem h98_p {L : Nat → Int32} {n i : Nat} {P : Pg → Prop} (h1 : P (u1 L n i)) (h2 : P (u2 L n i)) (h3 : P (u3 L n i)) (h4 : P (u4 L n i)) (h5 : P (u5 L n i)) (h6 : P (u6 L n i)) (h7 : P (u7 L n i)) (h8 : P (u8 L n i)) : P (c98 L n i) := by
  have ci : ∀ {Q : Prop} {a b : Pg}, P a → P b → P (cI Q a b) := by
    intro Q a b ha hb
    by_cases q : Q
    · rw [cI_t q]; exact ha
    · rw [cI_f q]; exact hb
  exact ci (ci (ci (ci (ci (ci (ci h8 h7) h6) h5) h4) h3) h2) h1
theorem c98_le {L : Nat → Int32} {n i : Nat} (h : i ≤ n) : (c98 L n i).2 ≤ n := h98_p (P := fun a => a.2 ≤ n) (u1_le h) (u2_le h) (u3_le h) (u4_le h) (u5_le h) (u6_le h) (u7_le h) (u8_le h)
theorem w1_le {L : Nat → Int32} {n i : Nat} (h : i ≤ n) : (w1 L n i).2 ≤ n := gN_le h
theorem w2_le {L : Nat → Int32} {n i : Nat} (h : i ≤ n) : (w2 L n i).2 ≤ n := gT_le (by decide) (w1_le h)
theorem w3_le {L : Nat → Int32} {n i : Nat} (h : i ≤ n) : (w3 L n i).2 ≤ n := gN_le (w2_le h)
theorem c102_le {L : Nat → Int32} {n i : Nat} (h : i ≤ n) : (c102 L n i).2 ≤ n := by
  unfold c102 h102
  by_cases q : (w1 L n i).1
  · rw [cI_t q]
    by_cases q2 : (w2 L n i).1
    · rw [cI_t q2]; exact w3_le h
    · rw [cI_f q2]; exact w2_le h
  · rw [cI_f q]; exact w1_le h
theorem fin_le {L : Nat → Int32} {n : Nat} {a : Pg} (h : a.2 ≤ n) : (fin L n a).2 ≤ n := by
  unfold fin
  by_cases q : a.1
  · rw [cI_t q]; exact gT_le (by decide) h
  · rw [cI_f q]; exact h
theorem gS_le {L : Nat → Int32} {n i : Nat} (h : i ≤ n) : (gS L n i).2 ≤ n := by
  unfold gS
  by_cases q1 : sgF L n i = 104
  · rw [if_pos q1]; exact fin_le (gN_le (sg_lt q1 (by decide)))
  · rw [if_neg q1]
    by_cases q2 : sgF L n i = 98
    · rw [if_pos q2]; exact fin_le (c98_le (sg_lt q2 (by decide)))
    · rw [if_neg q2]
      by_cases q3 : sgF L n i = 102
      · rw [if_pos q3]; exact fin_le (c102_le (sg_lt q3 (by decide)))
      · rw [if_neg q3]; exact h
theorem swK (x : Int32) : x = 97 ∨ x = 101 ∨ x = 110 ∨ x = 111 ∨ x = 112 ∨ x = 120 ∨ (¬ x = 97 ∧ ¬ x = 101 ∧ ¬ x = 110 ∧ ¬ x = 111 ∧ ¬ x = 112 ∧ ¬ x = 120) := by
  by_cases h1 : x = 97
  · exact Or.inl h1
  by_cases h2 : x = 101
  · exact Or.inr (Or.inl h2)
  by_cases h3 : x = 110
  · exact Or.inr (Or.inr (Or.inl h3))
  by_cases h4 : x = 111
  · exact Or.inr (Or.inr (Or.inr (Or.inl h4)))
  by_cases h5 : x = 112
  · exact Or.inr (Or.inr (Or.inr (Or.inr (Or.inl h5))))
  by_cases h6 : x = 120
  · exact Or.inr (Or.inr (Or.inr (Or.inr (Or.inr (Or.inl h6)))))
  · exact Or.inr (Or.inr (Or.inr (Or.inr (Or.inr (Or.inr ⟨h1, h2, h3, h4, h5, h6⟩)))))
theorem swS (x : Int32) : x = 98 ∨ x = 102 ∨ x = 104 ∨ (¬ x = 98 ∧ ¬ x = 102 ∧ ¬ x = 104) := by
  by_cases h1 : x = 98
  · exact Or.inl h1
  by_cases h2 : x = 102
  · exact Or.inr (Or.inl h2)
  by_cases h3 : x = 104
  · exact Or.inr (Or.inr (Or.inl h3))
  · exact Or.inr (Or.inr (Or.inr ⟨h1, h2, h3⟩))
theorem kdF_d {x : Int32} (h : ¬ x = 97 ∧ ¬ x = 101 ∧ ¬ x = 110 ∧ ¬ x = 111 ∧ ¬ x = 112 ∧ ¬ x = 120) : kdF x = -9 := by
  rw [kdF, if_neg h.2.2.2.2.1, if_neg h.1, if_neg h.2.2.2.1, if_neg h.2.1, if_neg h.2.2.2.2.2, if_neg h.2.2.1]
theorem gT_t {L : Nat → Int32} {n i : Nat} {c : Int32} (h : sgF L n i = c) : gT L n c i = (sgF L n i = c, i + 1) := by unfold gT; rw [if_pos h]
theorem gT_f {L : Nat → Int32} {n i : Nat} {c : Int32} (h : ¬ sgF L n i = c) : gT L n c i = (sgF L n i = c, i) := by unfold gT; rw [if_neg h]
theorem gK_t {L : Nat → Int32} {n i : Nat} (h : 0 ≤ kdF (sgF L n i)) : gK L n i = (0 ≤ kdF (sgF L n i), i + 1) := by unfold gK; rw [if_pos h]
theorem gK_f {L : Nat → Int32} {n i : Nat} (h : ¬ 0 ≤ kdF (sgF L n i)) : gK L n i = (0 ≤ kdF (sgF L n i), i) := by unfold gK; rw [if_neg h]
theorem gM_t {L : Nat → Int32} {n i : Nat} (h : sgF L n i = 98 ∨ sgF L n i = 104) : gM L n i = gN L n 1 (i + 1) := if_pos h
theorem gM_f {L : Nat → Int32} {n i : Nat} (h : ¬ (sgF L n i = 98 ∨ sgF L n i = 104)) : gM L n i = (False, i) := if_neg h
theorem tM_t {L : Nat → Int32} {n k i : Nat} {T : Nat → Int32} (h : sgF L n i = 98 ∨ sgF L n i = 104) : tM L n k i T = cI (gN L n 1 (i + 1)).1 (upd (tN L n k 1 (i + 1) T) k (tN L n k 1 (i + 1) T k + (if sgF L n i = 98 then 10 else 0))) (tN L n k 1 (i + 1) T) := if_pos h
theorem tM_f {L : Nat → Int32} {n k i : Nat} {T : Nat → Int32} (h : ¬ (sgF L n i = 98 ∨ sgF L n i = 104)) : tM L n k i T = T := if_neg h
theorem fin_t {L : Nat → Int32} {n : Nat} {a : Pg} (h : a.1) : fin L n a = gT L n 59 a.2 := cI_t h
theorem fin_f {L : Nat → Int32} {n : Nat} {a : Pg} (h : ¬ a.1) : fin L n a = a := cI_f h
theorem gS_h {L : Nat → Int32} {n i : Nat} (h : sgF L n i = 104) : gS L n i = fin L n (gN L n 2 (i + 1)) := if_pos h
theorem gS_b {L : Nat → Int32} {n i : Nat} (h : sgF L n i = 98) : gS L n i = fin L n (c98 L n (i + 1)) := by rw [gS, if_neg (by rw [h]; decide), if_pos h]
theorem gS_f {L : Nat → Int32} {n i : Nat} (h : sgF L n i = 102) : gS L n i = fin L n (c102 L n (i + 1)) := by rw [gS, if_neg (by rw [h]; decide), if_neg (by rw [h]; decide), if_pos h]
theorem gS_d {L : Nat → Int32} {n i : Nat} (h : ¬ sgF L n i = 98 ∧ ¬ sgF L n i = 102 ∧ ¬ sgF L n i = 104) : gS L n i = (False, i) := by rw [gS, if_neg h.2.2, if_neg h.1, if_neg h.2.1]
theorem tS_h {L : Nat → Int32} {n i : Nat} {T : Nat → Int32} (h : sgF L n i = 104) : tS L n i T = tN L n 0 2 (i + 1) T := if_pos h
theorem tS_b {L : Nat → Int32} {n i : Nat} {T : Nat → Int32} (h : sgF L n i = 98) : tS L n i T = t98 L n (i + 1) T := by rw [tS, if_neg (by rw [h]; decide), if_pos h]
theorem tS_f {L : Nat → Int32} {n i : Nat} {T : Nat → Int32} (h : sgF L n i = 102) : tS L n i T = t102 L n (i + 1) T := by rw [tS, if_neg (by rw [h]; decide), if_neg (by rw [h]; decide), if_pos h]
theorem tS_d {L : Nat → Int32} {n i : Nat} {T : Nat → Int32} (h : ¬ sgF L n i = 98 ∧ ¬ sgF L n i = 102 ∧ ¬ sgF L n i = 104) : tS L n i T = T := by rw [tS, if_neg h.2.2, if_neg h.1, if_neg h.2.1]
set_option maxHeartbeats 4000000 in
set_option maxRecDepth 100000 in
theorem k_X12_sign (l : Launch) (G : GP) (ad : Nat → Nat) (σ : Nat → Nat → Int32) (n : Nat) (i : Nat) (hn : (σ 0 7) = nI n) (hn80 : n ≤ 80) (hi : (σ 0 8) = nI i) (hin : i ≤ n) : CT l G yX12_sign cX12_sign 1 (some .int) 0 [.ref (ad 0)] (WM G ad σ) (some (.int (sgF (σ 5) n i))) (WM G ad σ) := by
  refine x_meth "BetsOnBetsModel" rfl (by decide +kernel) (by rfl) (Nat.le_of_ble_eq_true rfl) ?_
  intro pP eE sS mM args below meth cC A ls hC hr hkL hK hZ hA hH hl
  have hx := hC.1
  have hb := hC.2.1
  have hl : lv_has ls 1 [(0, .ref (ad 0))] := hl
  refine lv_aload_n hx hb dX12_sign_0 rfl (lv_at hl 0 rfl) ?_
  refine gf_X12_51 (v := .int (σ 0 8)) hC hK hH 0 rfl rfl dX12_sign_1 ?_
  refine x_topE (y := (nI i)) hi ?_
  refine lv_aload_n hx hb dX12_sign_4 rfl (lv_at hl 0 rfl) ?_
  refine gf_X12_43 (v := .int (σ 0 7)) hC hK hH 0 rfl rfl dX12_sign_5 ?_
  refine x_topE (y := (nI n)) hn ?_
  refine lv_icmp_ge (tgt := 23) hx hb dX12_sign_8 (by decide) (fun c8 => ?_) (fun c8 => ?_)
  · have ge_ : n ≤ i := lp_out (n := n) rfl (by omega) (by omega) c8
    refine lv_iconst (v := (-1)) hx hb dX12_sign_23 (by decide) ?_
    exact x_iret hC hr hkL hH (by first | exact if_pos lt_ | exact if_neg (Nat.not_lt.mpr ge_)) rfl dX12_sign_24
  · have lt_ : i < n := lp_in (n := n) rfl (by omega) (by omega) c8
    refine lv_aload_n hx hb dX12_sign_11 rfl (lv_at hl 0 rfl) ?_
    refine gf_X12_22 (v := .ref (ad 5)) hC hK hH 0 rfl rfl dX12_sign_12 ?_
    refine lv_aload_n hx hb dX12_sign_15 rfl (lv_at hl 0 rfl) ?_
    refine gf_X12_51 (v := .int (σ 0 8)) hC hK hH 0 rfl rfl dX12_sign_16 ?_
    refine x_topE (y := (nI i)) hi ?_
    refine x_ialN (f := (σ 5)) hC hK hH 5 i rfl rfl (by omega) (Nat.le_of_ble_eq_true rfl) dX12_sign_19 ?_
    refine lv_goto (tgt := 24) hx hb dX12_sign_20 (by decide) ?_
    exact x_iret hC hr hkL hH (by first | exact if_pos lt_ | exact if_neg (Nat.not_lt.mpr ge_)) rfl dX12_sign_24
set_option maxHeartbeats 4000000 in
set_option maxRecDepth 100000 in
theorem k_X12_takes (l : Launch) (G : GP) (ad : Nat → Nat) (σ : Nat → Nat → Int32) (c : Int32) (n : Nat) (i : Nat) (hn : (σ 0 7) = nI n) (hn80 : n ≤ 80) (hi : (σ 0 8) = nI i) (hin : i ≤ n) : CT l G yX12_takes cX12_takes 2 (some .boolean) 1 [.ref (ad 0), .int c] (WM G ad σ) (some (.int (bI ((gT (σ 5) n c i).1)))) (WM G ad (ua σ 0 (upd (σ 0) 8 (nI (gT (σ 5) n c i).2)))) := by
  refine x_meth "BetsOnBetsModel" rfl (by decide +kernel) (by rfl) (Nat.le_of_ble_eq_true rfl) ?_
  intro pP eE sS mM args below meth cC A ls hC hr hkL hK hZ hA hH hl
  have hx := hC.1
  have hb := hC.2.1
  have hl : lv_has ls 2 [(0, .ref (ad 0)), (1, .int c)] := hl
  refine lv_aload_n hx hb dX12_takes_0 rfl (lv_at hl 0 rfl) ?_
  refine x_callVA (ws' := WM G ad σ) (As := []) (rest := []) (st' := [.int (sgF (σ 5) n i)]) hC hK hZ hA hl.1 hH (k_X12_sign l G ad σ n i hn hn80 hi hin) lk_X12_54 rfl 0 11 rfl rfl rfl ⟨Nat.le_of_ble_eq_true rfl, Nat.le_of_ble_eq_true rfl⟩ ⟨Nat.le_refl _, Nat.le_refl _⟩ (Nat.le_of_ble_eq_true rfl) rfl dX12_takes_1 (fun H locs hH => ?_)
  refine lv_iload_n hx hb dX12_takes_4 rfl (lv_at hl 1 rfl) ?_
  refine lv_icmp_eq (tgt := 10) hx hb dX12_takes_5 (by decide) (fun c5 => ?_) (fun c5 => ?_)
  · refine lv_aload_n hx hb dX12_takes_10 rfl (lv_at hl 0 rfl) ?_
    refine lv_dup hx hb dX12_takes_11 rfl ?_
    refine gf_X12_51 (v := .int (σ 0 8)) hC hK hH 0 rfl rfl dX12_takes_12 ?_
    refine x_topE (y := (nI i)) hi ?_
    refine lv_iconst (v := 1) hx hb dX12_takes_15 (by decide) ?_
    refine lv_iadd hx hb dX12_takes_16 ?_
    refine x_topE (y := (nI (i + 1))) (nI_1 _) ?_
    refine pf_X12_51 (ws' := WM G ad (ua σ 0 (upd (σ 0) 8 (nI (i + 1))))) hC hK hH 0 rfl rfl rfl (Nat.le_of_ble_eq_true rfl) dX12_takes_17 rfl (fun H locs hH => ?_)
    refine lv_iconst (v := 1) hx hb dX12_takes_20 (by decide) ?_
    exact x_zret hC hr hkL hH nar_bI (bI_t (by exact c5)) (congrArg (fun z_ : Nat → Int32 => WM G ad (ua σ 0 z_)) (by first | (rw [gT_t c5]; done) | (rw [gT_f c5]; show upd _ 8 (nI i) = _; rw [← hi]; exact upd_id rfl) : (upd (σ 0) 8 (nI (gT (σ 5) n c i).2)) = (upd (σ 0) 8 (nI (i + 1))))) dX12_takes_21
  · refine lv_iconst (v := 0) hx hb dX12_takes_8 (by decide) ?_
    exact x_zret hC hr hkL hH nar_bI (bI_f (by exact c5)) ((congrArg (fun z_ : Nat → Int32 => WM G ad (ua σ 0 z_)) (by first | (rw [gT_t c5]; done) | (rw [gT_f c5]; show upd _ 8 (nI i) = _; rw [← hi]; exact upd_id rfl) : (upd (σ 0) 8 (nI (gT (σ 5) n c i).2)) = (σ 0))).trans (show WM G ad (ua σ 0 (σ 0)) = WM G ad σ from rfl)) dX12_takes_9
set_option maxHeartbeats 4000000 in
set_option maxRecDepth 100000 in
theorem k_X12_readsNumber (l : Launch) (G : GP) (ad : Nat → Nat) (σ : Nat → Nat → Int32) (k : Int32) (most : Int32) (n : Nat) (i : Nat) (kj : Nat) (m : Nat) (hn : (σ 0 7) = nI n) (hn80 : n ≤ 80) (hi : (σ 0 8) = nI i) (hin : i ≤ n) (hk : k = nI kj) (hk7 : kj < 7) (hm : most = nI m) (hm2 : m ≤ 2) : CT l G yX12_readsNumber cX12_readsNumber 4 (some .boolean) 1 [.ref (ad 0), .int k, .int most] (WM G ad σ) (some (.int (bI ((gN (σ 5) n m i).1)))) (WM G ad (ua (ua σ 0 (upd (σ 0) 8 (nI (gN (σ 5) n m i).2))) 6 (tN (σ 5) n kj m i (σ 6)))) := by
  refine x_meth "BetsOnBetsModel" rfl (by decide +kernel) (by rfl) (Nat.le_of_ble_eq_true rfl) ?_
  intro pP eE sS mM args below meth cC A ls hC hr hkL hK hZ hA hH hl
  have hx := hC.1
  have hb := hC.2.1
  have hl : lv_has ls 4 [(0, .ref (ad 0)), (1, .int k), (2, .int most)] := hl
  refine lv_aload_n hx hb dX12_readsNumber_0 rfl (lv_at hl 0 rfl) ?_
  refine gf_X12_25 (v := .ref (ad 6)) hC hK hH 0 rfl rfl dX12_readsNumber_1 ?_
  refine lv_iload_n hx hb dX12_readsNumber_4 rfl (lv_at hl 1 rfl) ?_
  refine lv_iconst (v := 0) hx hb dX12_readsNumber_5 (by decide) ?_
  refine x_iasN (f := (σ 6)) (ws' := WM G ad (ua σ 6 (upd (σ 6) kj 0))) hC hK hH 6 kj rfl hk hk7 (Nat.le_of_ble_eq_true rfl) dX12_readsNumber_6 rfl (fun H locs hH => ?_)
  refine lv_iconst (v := 0) hx hb dX12_readsNumber_7 (by decide) ?_
  refine lv_istore_n (lv' := [(3, .int 0), (0, .ref (ad 0)), (1, .int k), (2, .int most)]) hx hb dX12_readsNumber_8 rfl hl (by decide) rfl (fun ls hl => ?_)
  refine x_loop (G := G) (A := A) (H0 := sS.heap) (nL := 4) (α := Nat) (fun q_ => m - q_) (fun q_ => q_ ≤ m ∧ rdC (σ 5) n i q_ = q_ ∧ i + q_ ≤ n) (fun q_ => WM G ad (ua (ua σ 0 (upd (σ 0) 8 (nI (i + q_)))) 6 (upd (σ 6) kj (rdV (σ 5) n i q_)))) (fun q_ => [(0, .ref (ad 0)), (1, .int k), (2, .int most), (3, .int (nI q_))]) ?_ 0 (show 0 ≤ m ∧ rdC (σ 5) n i 0 = 0 ∧ i + 0 ≤ n from ⟨by omega, rfl, hin⟩) ?_ ?_
  · rintro c hi_c ih_c H locs ls hH hl
    replace hi_c : c ≤ m ∧ rdC (σ 5) n i c = c ∧ i + c ≤ n := hi_c
    replace hH : Hx G A (WM G ad (ua (ua σ 0 (upd (σ 0) 8 (nI (i + c)))) 6 (upd (σ 6) kj (rdV (σ 5) n i c)))) sS.heap H locs := hH
    replace hl : lv_has ls 4 [(0, .ref (ad 0)), (1, .int k), (2, .int most), (3, .int (nI c))] := hl
    have hi_c1 := hi_c.1
    refine lv_iload_n hx hb dX12_readsNumber_9 rfl (lv_at hl 3 rfl) ?_
    refine lv_iload_n hx hb dX12_readsNumber_10 rfl (lv_at hl 2 rfl) ?_
    refine lv_icmp_ge (tgt := 68) hx hb dX12_readsNumber_11 (by decide) (fun c11 => ?_) (fun c11 => ?_)
    · have ge_c := lp_out (n := m) hm (by omega) (by omega) c11
      have eq_c : c = m := by omega
      have rc_ : rdC (σ 5) n i m = c := (by first | exact (show rdC (σ 5) n i m = c from eq_c ▸ hi_c.2.1) | exact rdC_stop hi_c.2.1 c26 m (by omega))
      refine lv_iload_n hx hb dX12_readsNumber_68 rfl (lv_at hl 3 rfl) ?_
      refine lv_if_le (tgt := 76) hx hb dX12_readsNumber_69 (by decide) (fun c69 => ?_) (fun c69 => ?_)
      · refine lv_iconst (v := 0) hx hb dX12_readsNumber_76 (by decide) ?_
        exact x_zret hC hr hkL hH nar_bI (bI_f (by show ¬ 0 < rdC _ _ _ _; rw [rc_]; exact fun z => absurd ((nI_gt0 (by omega)).mpr z) (Int32.not_lt.mpr c69))) ((congrArg (fun z_ : Nat → Int32 => WM G ad (ua (ua σ 0 z_) 6 (tN (σ 5) n kj m i (σ 6)))) (by simp only [gN, tN, rc_] : (upd (σ 0) 8 (nI (gN (σ 5) n m i).2)) = (upd (σ 0) 8 (nI (i + c))))).trans (congrArg (fun z_ : Nat → Int32 => WM G ad (ua (ua σ 0 (upd (σ 0) 8 (nI (i + c)))) 6 z_)) (by simp only [gN, tN, rc_] : (tN (σ 5) n kj m i (σ 6)) = (upd (σ 6) kj (rdV (σ 5) n i c))))) dX12_readsNumber_77
      · refine lv_iconst (v := 1) hx hb dX12_readsNumber_72 (by decide) ?_
        refine lv_goto (tgt := 77) hx hb dX12_readsNumber_73 (by decide) ?_
        exact x_zret hC hr hkL hH nar_bI (bI_t (by show 0 < rdC _ _ _ _; rw [rc_]; exact (nI_gt0 (by omega)).mp (Int32.not_le.mp c69))) ((congrArg (fun z_ : Nat → Int32 => WM G ad (ua (ua σ 0 z_) 6 (tN (σ 5) n kj m i (σ 6)))) (by simp only [gN, tN, rc_] : (upd (σ 0) 8 (nI (gN (σ 5) n m i).2)) = (upd (σ 0) 8 (nI (i + c))))).trans (congrArg (fun z_ : Nat → Int32 => WM G ad (ua (ua σ 0 (upd (σ 0) 8 (nI (i + c)))) 6 z_)) (by simp only [gN, tN, rc_] : (tN (σ 5) n kj m i (σ 6)) = (upd (σ 6) kj (rdV (σ 5) n i c))))) dX12_readsNumber_77
    · have lt_c := lp_in (n := m) hm (by omega) (by omega) c11
      refine lv_aload_n hx hb dX12_readsNumber_14 rfl (lv_at hl 0 rfl) ?_
      refine x_callVA (ws' := WM G ad (ua (ua σ 0 (upd (σ 0) 8 (nI (i + c)))) 6 (upd (σ 6) kj (rdV (σ 5) n i c)))) (As := []) (rest := []) (st' := [.int (sgF (σ 5) n (i + c))]) hC hK hZ hA hl.1 hH (k_X12_sign l G ad (ua (ua σ 0 (upd (σ 0) 8 (nI (i + c)))) 6 (upd (σ 6) kj (rdV (σ 5) n i c))) n (i + c) hn hn80 rfl hi_c.2.2) lk_X12_54 rfl 0 11 rfl rfl rfl ⟨Nat.le_of_ble_eq_true rfl, Nat.le_of_ble_eq_true rfl⟩ ⟨Nat.le_refl _, Nat.le_refl _⟩ (Nat.le_of_ble_eq_true rfl) rfl dX12_readsNumber_15 (fun H locs hH => ?_)
      refine lv_bipush (v := 48) hx hb dX12_readsNumber_18 (by decide) ?_
      refine lv_isub hx hb dX12_readsNumber_20 ?_
      refine lv_bipush (v := 10) hx hb dX12_readsNumber_21 (by decide) ?_
      refine x_callS (ws' := WM G ad (ua (ua σ 0 (upd (σ 0) 8 (nI (i + c)))) 6 (upd (σ 6) kj (rdV (σ 5) n i c)))) (As := [.int ((sgF (σ 5) n (i + c)) - 48), .int 10]) (rest := []) (st' := [.int (bI (0 ≤ ((sgF (σ 5) n (i + c)) - 48) ∧ ((sgF (σ 5) n (i + c)) - 48) < 10))]) hC hK hZ hA hl.1 hH (k_X12_isIn l G (pk ad []) (pk (ua (ua σ 0 (upd (σ 0) 8 (nI (i + c)))) 6 (upd (σ 6) kj (rdV (σ 5) n i c))) []) ((sgF (σ 5) n (i + c)) - 48) 10) lk_X12_31 [] rfl rfl rfl rfl ⟨Nat.le_of_ble_eq_true rfl, Nat.le_of_ble_eq_true rfl⟩ ⟨Nat.le_refl _, Nat.le_refl _⟩ (Nat.le_of_ble_eq_true rfl) rfl dX12_readsNumber_23 (fun H locs hH => ?_)
      refine x_beq (tgt := 68) hC dX12_readsNumber_26 (by decide) (fun c26 => ?_) (fun c26 => ?_)
      · have rc_ : rdC (σ 5) n i m = c := (by first | exact (show rdC (σ 5) n i m = c from eq_c ▸ hi_c.2.1) | exact rdC_stop hi_c.2.1 c26 m (by omega))
        refine lv_iload_n hx hb dX12_readsNumber_68 rfl (lv_at hl 3 rfl) ?_
        refine lv_if_le (tgt := 76) hx hb dX12_readsNumber_69 (by decide) (fun c69 => ?_) (fun c69 => ?_)
        · refine lv_iconst (v := 0) hx hb dX12_readsNumber_76 (by decide) ?_
          exact x_zret hC hr hkL hH nar_bI (bI_f (by show ¬ 0 < rdC _ _ _ _; rw [rc_]; exact fun z => absurd ((nI_gt0 (by omega)).mpr z) (Int32.not_lt.mpr c69))) ((congrArg (fun z_ : Nat → Int32 => WM G ad (ua (ua σ 0 z_) 6 (tN (σ 5) n kj m i (σ 6)))) (by simp only [gN, tN, rc_] : (upd (σ 0) 8 (nI (gN (σ 5) n m i).2)) = (upd (σ 0) 8 (nI (i + c))))).trans (congrArg (fun z_ : Nat → Int32 => WM G ad (ua (ua σ 0 (upd (σ 0) 8 (nI (i + c)))) 6 z_)) (by simp only [gN, tN, rc_] : (tN (σ 5) n kj m i (σ 6)) = (upd (σ 6) kj (rdV (σ 5) n i c))))) dX12_readsNumber_77
        · refine lv_iconst (v := 1) hx hb dX12_readsNumber_72 (by decide) ?_
          refine lv_goto (tgt := 77) hx hb dX12_readsNumber_73 (by decide) ?_
          exact x_zret hC hr hkL hH nar_bI (bI_t (by show 0 < rdC _ _ _ _; rw [rc_]; exact (nI_gt0 (by omega)).mp (Int32.not_le.mp c69))) ((congrArg (fun z_ : Nat → Int32 => WM G ad (ua (ua σ 0 z_) 6 (tN (σ 5) n kj m i (σ 6)))) (by simp only [gN, tN, rc_] : (upd (σ 0) 8 (nI (gN (σ 5) n m i).2)) = (upd (σ 0) 8 (nI (i + c))))).trans (congrArg (fun z_ : Nat → Int32 => WM G ad (ua (ua σ 0 (upd (σ 0) 8 (nI (i + c)))) 6 z_)) (by simp only [gN, tN, rc_] : (tN (σ 5) n kj m i (σ 6)) = (upd (σ 6) kj (rdV (σ 5) n i c))))) dX12_readsNumber_77
      · refine lv_aload_n hx hb dX12_readsNumber_29 rfl (lv_at hl 0 rfl) ?_
        refine gf_X12_25 (v := .ref (ad 6)) hC hK hH 0 rfl rfl dX12_readsNumber_30 ?_
        refine lv_iload_n hx hb dX12_readsNumber_33 rfl (lv_at hl 1 rfl) ?_
        refine lv_bipush (v := 10) hx hb dX12_readsNumber_34 (by decide) ?_
        refine lv_aload_n hx hb dX12_readsNumber_36 rfl (lv_at hl 0 rfl) ?_
        refine gf_X12_25 (v := .ref (ad 6)) hC hK hH 0 rfl rfl dX12_readsNumber_37 ?_
        refine lv_iload_n hx hb dX12_readsNumber_40 rfl (lv_at hl 1 rfl) ?_
        refine x_ialN (f := (upd (σ 6) kj (rdV (σ 5) n i c))) hC hK hH 6 kj rfl hk hk7 (Nat.le_of_ble_eq_true rfl) dX12_readsNumber_41 ?_
        refine x_topE (y := (rdV (σ 5) n i c)) pk_us ?_
        refine lv_imul hx hb dX12_readsNumber_42 ?_
        refine lv_aload_n hx hb dX12_readsNumber_43 rfl (lv_at hl 0 rfl) ?_
        refine x_callVA (ws' := WM G ad (ua (ua σ 0 (upd (σ 0) 8 (nI (i + c)))) 6 (upd (σ 6) kj (rdV (σ 5) n i c)))) (As := []) (rest := [.int (10 * (rdV (σ 5) n i c)), .int k, .ref (ad 6)]) (st' := [.int (sgF (σ 5) n (i + c)), .int (10 * (rdV (σ 5) n i c)), .int k, .ref (ad 6)]) hC hK hZ hA hl.1 hH (k_X12_sign l G ad (ua (ua σ 0 (upd (σ 0) 8 (nI (i + c)))) 6 (upd (σ 6) kj (rdV (σ 5) n i c))) n (i + c) hn hn80 rfl hi_c.2.2) lk_X12_54 rfl 0 11 rfl rfl rfl ⟨Nat.le_of_ble_eq_true rfl, Nat.le_of_ble_eq_true rfl⟩ ⟨Nat.le_refl _, Nat.le_refl _⟩ (Nat.le_of_ble_eq_true rfl) rfl dX12_readsNumber_44 (fun H locs hH => ?_)
        refine lv_iadd hx hb dX12_readsNumber_47 ?_
        refine lv_bipush (v := 48) hx hb dX12_readsNumber_48 (by decide) ?_
        refine lv_isub hx hb dX12_readsNumber_50 ?_
        refine x_iasN (f := (upd (σ 6) kj (rdV (σ 5) n i c))) (ws' := WM G ad (ua (ua σ 0 (upd (σ 0) 8 (nI (i + c)))) 6 (upd (upd (σ 6) kj (rdV (σ 5) n i c)) kj (((10 * (rdV (σ 5) n i c)) + (sgF (σ 5) n (i + c))) - 48)))) hC hK hH 6 kj rfl hk hk7 (Nat.le_of_ble_eq_true rfl) dX12_readsNumber_51 rfl (fun H locs hH => ?_)
        refine lv_aload_n hx hb dX12_readsNumber_52 rfl (lv_at hl 0 rfl) ?_
        refine lv_dup hx hb dX12_readsNumber_53 rfl ?_
        refine gf_X12_51 (v := .int (nI (i + c))) hC hK hH 0 rfl rfl dX12_readsNumber_54 ?_
        refine lv_iconst (v := 1) hx hb dX12_readsNumber_57 (by decide) ?_
        refine lv_iadd hx hb dX12_readsNumber_58 ?_
        refine x_topE (y := (nI (i + (c + 1)))) (by rw [nI_1]; rfl) ?_
        refine pf_X12_51 (ws' := WM G ad (ua (ua σ 0 (upd (σ 0) 8 (nI (i + (c + 1))))) 6 (upd (upd (σ 6) kj (rdV (σ 5) n i c)) kj (((10 * (rdV (σ 5) n i c)) + (sgF (σ 5) n (i + c))) - 48)))) hC hK hH 0 rfl rfl rfl (Nat.le_of_ble_eq_true rfl) dX12_readsNumber_59 rfl (fun H locs hH => ?_)
        refine lv_iinc (v := ((nI c) + 1)) (lv' := [(3, .int ((nI c) + 1)), (0, .ref (ad 0)), (1, .int k), (2, .int most)]) hx hb dX12_readsNumber_62 hl (k := 3) rfl rfl (by decide) rfl (fun ls hl => ?_)
        refine lv_goto (tgt := 9) hx hb dX12_readsNumber_65 (by decide) ?_
        exact ih_c (c + 1) (show (c + 1) ≤ m ∧ rdC (σ 5) n i (c + 1) = (c + 1) ∧ i + (c + 1) ≤ n from ⟨by omega, rdC_go hi_c.2.1 c26, by have := dg_lt (L := (σ 5)) (n := n) c26; omega⟩) (show m - (c + 1) < m - c from (by omega)) _ _ _ (hH.eq (congrArg (fun z_ : Nat → Int32 => WM G ad (ua (ua σ 0 (upd (σ 0) 8 (nI (i + (c + 1))))) 6 z_)) (by first | exact upd_at | rfl : (upd (upd (σ 6) kj (rdV (σ 5) n i c)) kj (((10 * (rdV (σ 5) n i c)) + (sgF (σ 5) n (i + c))) - 48)) = (upd (σ 6) kj (rdV (σ 5) n i (c + 1)))))) (lv_eq (lv_sub hl [1, 2, 3, 0] rfl) (lc_s (lc_s (lc_s (lc_i (by first | rfl | exact nI_1 _ | simp : ((nI c) + 1) = (nI (c + 1))) rfl)))))
  · exact hH.eq (Eq.trans (show WM G ad (ua σ 6 (upd (σ 6) kj 0)) = WM G ad (ua (ua σ 0 (σ 0)) 6 (upd (σ 6) kj 0)) from rfl) ((congrArg (fun z_ : Nat → Int32 => WM G ad (ua (ua σ 0 z_) 6 (upd (σ 6) kj 0))) (by rw [Nat.add_zero, ← hi]; exact (upd_id rfl).symm : (σ 0) = (upd (σ 0) 8 (nI (i + 0))))).trans (congrArg (fun z_ : Nat → Int32 => WM G ad (ua (ua σ 0 (upd (σ 0) 8 (nI (i + 0)))) 6 z_)) (by rfl : (upd (σ 6) kj 0) = (upd (σ 6) kj (rdV (σ 5) n i 0))))))
  · exact lv_eq (lv_sub hl [1, 2, 3, 0] rfl) (lc_s (lc_s (lc_s (lc_i (by rfl : 0 = (nI 0)) rfl))))
set_option maxHeartbeats 4000000 in
set_option maxRecDepth 100000 in
theorem k_X12_kindOf (l : Launch) (G : GP) (ad : Nat → Nat) (σ : Nat → Nat → Int32) (c : Int32) : CT l G yX12_kindOf cX12_kindOf 1 (some .int) 0 [.int c] (WE G ad σ) (some (.int (kdF c))) (WE G ad σ) := by
  refine x_meth "BetsOnBetsModel" rfl (by decide +kernel) (by rfl) (Nat.le_of_ble_eq_true rfl) ?_
  intro pP eE sS mM args below meth cC A ls hC hr hkL hK hZ hA hH hl
  have hx := hC.1
  have hb := hC.2.1
  have hl : lv_has ls 1 [(0, .int c)] := hl
  refine lv_iload_n hx hb dX12_kindOf_0 rfl (lv_at hl 0 rfl) ?_
  rcases swK c with h1 | h2 | h3 | h4 | h5 | h6 | hd
  · refine x_topE (y := 97) h1 ?_
    refine lv_lookup (tgt := 62) hx hb dX12_kindOf_1 (by decide) rfl (by decide) ?_
    refine lv_iconst (v := 1) hx hb dX12_kindOf_62 (by decide) ?_
    exact x_iret hC hr hkL hH (by rw [h1]; rfl) rfl dX12_kindOf_63
  · refine x_topE (y := 101) h2 ?_
    refine lv_lookup (tgt := 66) hx hb dX12_kindOf_1 (by decide) rfl (by decide) ?_
    refine lv_iconst (v := 3) hx hb dX12_kindOf_66 (by decide) ?_
    exact x_iret hC hr hkL hH (by rw [h2]; rfl) rfl dX12_kindOf_67
  · refine x_topE (y := 110) h3 ?_
    refine lv_lookup (tgt := 70) hx hb dX12_kindOf_1 (by decide) rfl (by decide) ?_
    refine lv_iconst (v := 5) hx hb dX12_kindOf_70 (by decide) ?_
    exact x_iret hC hr hkL hH (by rw [h3]; rfl) rfl dX12_kindOf_71
  · refine x_topE (y := 111) h4 ?_
    refine lv_lookup (tgt := 64) hx hb dX12_kindOf_1 (by decide) rfl (by decide) ?_
    refine lv_iconst (v := 2) hx hb dX12_kindOf_64 (by decide) ?_
    exact x_iret hC hr hkL hH (by rw [h4]; rfl) rfl dX12_kindOf_65
  · refine x_topE (y := 112) h5 ?_
    refine lv_lookup (tgt := 60) hx hb dX12_kindOf_1 (by decide) rfl (by decide) ?_
    refine lv_iconst (v := 0) hx hb dX12_kindOf_60 (by decide) ?_
    exact x_iret hC hr hkL hH (by rw [h5]; rfl) rfl dX12_kindOf_61
  · refine x_topE (y := 120) h6 ?_
    refine lv_lookup (tgt := 68) hx hb dX12_kindOf_1 (by decide) rfl (by decide) ?_
    refine lv_iconst (v := 4) hx hb dX12_kindOf_68 (by decide) ?_
    exact x_iret hC hr hkL hH (by rw [h6]; rfl) rfl dX12_kindOf_69
  · refine lv_lookup (off := 71) (tgt := 72) hx hb dX12_kindOf_1 (by decide) (by show Op.lookupswitch.offset [(97, 61), (101, 65), (110, 69), (111, 63), (112, 59), (120, 67)] 71 _ = _; rw [lv_osw hd.1 (show Int32.toInt 97 = 97 from rfl), lv_osw hd.2.1 (show Int32.toInt 101 = 101 from rfl), lv_osw hd.2.2.1 (show Int32.toInt 110 = 110 from rfl), lv_osw hd.2.2.2.1 (show Int32.toInt 111 = 111 from rfl), lv_osw hd.2.2.2.2.1 (show Int32.toInt 112 = 112 from rfl), lv_osw hd.2.2.2.2.2 (show Int32.toInt 120 = 120 from rfl)]; rfl) (by decide) ?_
    refine lv_bipush (v := (-9)) hx hb dX12_kindOf_72 (by decide) ?_
    exact x_iret hC hr hkL hH (by exact kdF_d hd) rfl dX12_kindOf_74
set_option maxHeartbeats 4000000 in
set_option maxRecDepth 100000 in
theorem k_X12_readsKind (l : Launch) (G : GP) (ad : Nat → Nat) (σ : Nat → Nat → Int32) (n : Nat) (i : Nat) (hn : (σ 0 7) = nI n) (hn80 : n ≤ 80) (hi : (σ 0 8) = nI i) (hin : i ≤ n) : CT l G yX12_readsKind cX12_readsKind 1 (some .boolean) 1 [.ref (ad 0)] (WM G ad σ) (some (.int (bI ((gK (σ 5) n i).1)))) (WM G ad (ua (ua σ 0 (upd (σ 0) 8 (nI (gK (σ 5) n i).2))) 6 (tK (σ 5) n i (σ 6)))) := by
  refine x_meth "BetsOnBetsModel" rfl (by decide +kernel) (by rfl) (Nat.le_of_ble_eq_true rfl) ?_
  intro pP eE sS mM args below meth cC A ls hC hr hkL hK hZ hA hH hl
  have hx := hC.1
  have hb := hC.2.1
  have hl : lv_has ls 1 [(0, .ref (ad 0))] := hl
  refine lv_aload_n hx hb dX12_readsKind_0 rfl (lv_at hl 0 rfl) ?_
  refine gf_X12_25 (v := .ref (ad 6)) hC hK hH 0 rfl rfl dX12_readsKind_1 ?_
  refine lv_iconst (v := 0) hx hb dX12_readsKind_4 (by decide) ?_
  refine lv_aload_n hx hb dX12_readsKind_5 rfl (lv_at hl 0 rfl) ?_
  refine x_callVA (ws' := WM G ad σ) (As := []) (rest := [.int 0, .ref (ad 6)]) (st' := [.int (sgF (σ 5) n i), .int 0, .ref (ad 6)]) hC hK hZ hA hl.1 hH (k_X12_sign l G ad σ n i hn hn80 hi hin) lk_X12_54 rfl 0 11 rfl rfl rfl ⟨Nat.le_of_ble_eq_true rfl, Nat.le_of_ble_eq_true rfl⟩ ⟨Nat.le_refl _, Nat.le_refl _⟩ (Nat.le_of_ble_eq_true rfl) rfl dX12_readsKind_6 (fun H locs hH => ?_)
  refine x_callS (ws' := WM G ad σ) (As := [.int (sgF (σ 5) n i)]) (rest := [.int 0, .ref (ad 6)]) (st' := [.int (kdF (sgF (σ 5) n i)), .int 0, .ref (ad 6)]) hC hK hZ hA hl.1 hH (k_X12_kindOf l G (pk ad []) (pk σ []) (sgF (σ 5) n i)) lk_X12_57 [] rfl rfl rfl rfl ⟨Nat.le_of_ble_eq_true rfl, Nat.le_of_ble_eq_true rfl⟩ ⟨Nat.le_refl _, Nat.le_refl _⟩ (Nat.le_of_ble_eq_true rfl) rfl dX12_readsKind_9 (fun H locs hH => ?_)
  refine x_iasN (f := (σ 6)) (ws' := WM G ad (ua σ 6 (upd (σ 6) 0 (kdF (sgF (σ 5) n i))))) hC hK hH 6 0 rfl rfl (by decide) (Nat.le_of_ble_eq_true rfl) dX12_readsKind_12 rfl (fun H locs hH => ?_)
  refine lv_aload_n hx hb dX12_readsKind_13 rfl (lv_at hl 0 rfl) ?_
  refine gf_X12_25 (v := .ref (ad 6)) hC hK hH 0 rfl rfl dX12_readsKind_14 ?_
  refine lv_iconst (v := 0) hx hb dX12_readsKind_17 (by decide) ?_
  refine x_ialN (f := (upd (σ 6) 0 (kdF (sgF (σ 5) n i)))) hC hK hH 6 0 rfl rfl (by decide) (Nat.le_of_ble_eq_true rfl) dX12_readsKind_18 ?_
  refine x_topE (y := (kdF (sgF (σ 5) n i))) pk_us ?_
  refine lv_if_ge (tgt := 24) hx hb dX12_readsKind_19 (by decide) (fun c19 => ?_) (fun c19 => ?_)
  · refine lv_aload_n hx hb dX12_readsKind_24 rfl (lv_at hl 0 rfl) ?_
    refine lv_dup hx hb dX12_readsKind_25 rfl ?_
    refine gf_X12_51 (v := .int (σ 0 8)) hC hK hH 0 rfl rfl dX12_readsKind_26 ?_
    refine x_topE (y := (nI i)) hi ?_
    refine lv_iconst (v := 1) hx hb dX12_readsKind_29 (by decide) ?_
    refine lv_iadd hx hb dX12_readsKind_30 ?_
    refine x_topE (y := (nI (i + 1))) (nI_1 _) ?_
    refine pf_X12_51 (ws' := WM G ad (ua (ua σ 0 (upd (σ 0) 8 (nI (i + 1)))) 6 (upd (σ 6) 0 (kdF (sgF (σ 5) n i))))) hC hK hH 0 rfl rfl rfl (Nat.le_of_ble_eq_true rfl) dX12_readsKind_31 rfl (fun H locs hH => ?_)
    refine lv_iconst (v := 1) hx hb dX12_readsKind_34 (by decide) ?_
    exact x_zret hC hr hkL hH nar_bI (bI_t (by exact c19)) ((congrArg (fun z_ : Nat → Int32 => WM G ad (ua (ua σ 0 z_) 6 (tK (σ 5) n i (σ 6)))) (by first | rfl | (rw [gK_t c19]; done) | (rw [gK_f c19]; show upd _ 8 (nI i) = _; rw [← hi]; exact upd_id rfl) : (upd (σ 0) 8 (nI (gK (σ 5) n i).2)) = (upd (σ 0) 8 (nI (i + 1))))).trans (congrArg (fun z_ : Nat → Int32 => WM G ad (ua (ua σ 0 (upd (σ 0) 8 (nI (i + 1)))) 6 z_)) (by first | rfl | (rw [gK_t c19]; done) | (rw [gK_f c19]; show upd _ 8 (nI i) = _; rw [← hi]; exact upd_id rfl) : (tK (σ 5) n i (σ 6)) = (upd (σ 6) 0 (kdF (sgF (σ 5) n i)))))) dX12_readsKind_35
  · refine lv_iconst (v := 0) hx hb dX12_readsKind_22 (by decide) ?_
    exact x_zret hC hr hkL hH nar_bI (bI_f (by exact c19)) (((congrArg (fun z_ : Nat → Int32 => WM G ad (ua (ua σ 0 z_) 6 (tK (σ 5) n i (σ 6)))) (by first | rfl | (rw [gK_t c19]; done) | (rw [gK_f c19]; show upd _ 8 (nI i) = _; rw [← hi]; exact upd_id rfl) : (upd (σ 0) 8 (nI (gK (σ 5) n i).2)) = (σ 0))).trans (congrArg (fun z_ : Nat → Int32 => WM G ad (ua (ua σ 0 (σ 0)) 6 z_)) (by first | rfl | (rw [gK_t c19]; done) | (rw [gK_f c19]; show upd _ 8 (nI i) = _; rw [← hi]; exact upd_id rfl) : (tK (σ 5) n i (σ 6)) = (upd (σ 6) 0 (kdF (sgF (σ 5) n i)))))).trans (show WM G ad (ua (ua σ 0 (σ 0)) 6 (upd (σ 6) 0 (kdF (sgF (σ 5) n i)))) = WM G ad (ua σ 6 (upd (σ 6) 0 (kdF (sgF (σ 5) n i)))) from rfl)) dX12_readsKind_23
set_option maxHeartbeats 4000000 in
set_option maxRecDepth 100000 in
theorem k_X12_readsMark (l : Launch) (G : GP) (ad : Nat → Nat) (σ : Nat → Nat → Int32) (k : Int32) (n : Nat) (i : Nat) (kj : Nat) (hn : (σ 0 7) = nI n) (hn80 : n ≤ 80) (hi : (σ 0 8) = nI i) (hin : i ≤ n) (hk : k = nI kj) (hk7 : kj < 7) : CT l G yX12_readsMark cX12_readsMark 3 (some .boolean) 2 [.ref (ad 0), .int k] (WM G ad σ) (some (.int (bI ((gM (σ 5) n i).1)))) (WM G ad (ua (ua σ 0 (upd (σ 0) 8 (nI (gM (σ 5) n i).2))) 6 (tM (σ 5) n kj i (σ 6)))) := by
  refine x_meth "BetsOnBetsModel" rfl (by decide +kernel) (by rfl) (Nat.le_of_ble_eq_true rfl) ?_
  intro pP eE sS mM args below meth cC A ls hC hr hkL hK hZ hA hH hl
  have hx := hC.1
  have hb := hC.2.1
  have hl : lv_has ls 3 [(0, .ref (ad 0)), (1, .int k)] := hl
  refine lv_aload_n hx hb dX12_readsMark_0 rfl (lv_at hl 0 rfl) ?_
  refine x_callVA (ws' := WM G ad σ) (As := []) (rest := []) (st' := [.int (sgF (σ 5) n i)]) hC hK hZ hA hl.1 hH (k_X12_sign l G ad σ n i hn hn80 hi hin) lk_X12_54 rfl 0 11 rfl rfl rfl ⟨Nat.le_of_ble_eq_true rfl, Nat.le_of_ble_eq_true rfl⟩ ⟨Nat.le_refl _, Nat.le_refl _⟩ (Nat.le_of_ble_eq_true rfl) rfl dX12_readsMark_1 (fun H locs hH => ?_)
  refine lv_bipush (v := 98) hx hb dX12_readsMark_4 (by decide) ?_
  refine lv_icmp_ne (tgt := 13) hx hb dX12_readsMark_6 (by decide) (fun c6 => ?_) (fun c6 => ?_)
  · refine lv_iconst (v := 0) hx hb dX12_readsMark_13 (by decide) ?_
    refine lv_istore_n (lv' := [(2, .int 0), (0, .ref (ad 0)), (1, .int k)]) hx hb dX12_readsMark_14 rfl hl (by decide) rfl (fun ls hl => ?_)
    refine lv_iload_n hx hb dX12_readsMark_15 rfl (lv_at hl 0 rfl) ?_
    refine lv_if_ne (tgt := 30) hx hb dX12_readsMark_16 (by decide) (fun c16 => ?_) (fun c16 => ?_)
    · exact absurd c16 (by decide)
    refine lv_aload_n hx hb dX12_readsMark_19 rfl (lv_at hl 1 rfl) ?_
    refine x_callVA (ws' := WM G ad σ) (As := []) (rest := []) (st' := [.int (sgF (σ 5) n i)]) hC hK hZ hA hl.1 hH (k_X12_sign l G ad σ n i hn hn80 hi hin) lk_X12_54 rfl 0 11 rfl rfl rfl ⟨Nat.le_of_ble_eq_true rfl, Nat.le_of_ble_eq_true rfl⟩ ⟨Nat.le_refl _, Nat.le_refl _⟩ (Nat.le_of_ble_eq_true rfl) rfl dX12_readsMark_20 (fun H locs hH => ?_)
    refine lv_bipush (v := 104) hx hb dX12_readsMark_23 (by decide) ?_
    refine lv_icmp_eq (tgt := 30) hx hb dX12_readsMark_25 (by decide) (fun c25 => ?_) (fun c25 => ?_)
    · have bh_ : sgF (σ 5) n i = 98 ∨ sgF (σ 5) n i = 104 := (by first | exact Or.inl c6 | exact Or.inr c25)
      have lt_ : i < n := bh_.elim (fun z => sg_lt z (by decide)) (fun z => sg_lt z (by decide))
      refine lv_aload_n hx hb dX12_readsMark_30 rfl (lv_at hl 1 rfl) ?_
      refine lv_dup hx hb dX12_readsMark_31 rfl ?_
      refine gf_X12_51 (v := .int (σ 0 8)) hC hK hH 0 rfl rfl dX12_readsMark_32 ?_
      refine x_topE (y := (nI i)) hi ?_
      refine lv_iconst (v := 1) hx hb dX12_readsMark_35 (by decide) ?_
      refine lv_iadd hx hb dX12_readsMark_36 ?_
      refine x_topE (y := (nI (i + 1))) (nI_1 _) ?_
      refine pf_X12_51 (ws' := WM G ad (ua σ 0 (upd (σ 0) 8 (nI (i + 1))))) hC hK hH 0 rfl rfl rfl (Nat.le_of_ble_eq_true rfl) dX12_readsMark_37 rfl (fun H locs hH => ?_)
      refine lv_aload_n hx hb dX12_readsMark_40 rfl (lv_at hl 1 rfl) ?_
      refine lv_iload_n hx hb dX12_readsMark_41 rfl (lv_at hl 2 rfl) ?_
      refine lv_iconst (v := 1) hx hb dX12_readsMark_42 (by decide) ?_
      refine x_callVA (ws' := WM G ad (ua (ua σ 0 (upd (σ 0) 8 (nI (gN (σ 5) n 1 (i + 1)).2))) 6 (tN (σ 5) n kj 1 (i + 1) (σ 6)))) (As := [.int k, .int 1]) (rest := []) (st' := [.int (bI ((gN (σ 5) n 1 (i + 1)).1))]) hC hK hZ hA hl.1 hH (k_X12_readsNumber l G ad (ua σ 0 (upd (σ 0) 8 (nI (i + 1)))) k 1 n (i + 1) kj 1 hn hn80 rfl (by first | assumption | rfl | omega) hk hk7 rfl (by decide)) lk_X12_60 rfl 0 11 rfl rfl rfl ⟨Nat.le_of_ble_eq_true rfl, Nat.le_of_ble_eq_true rfl⟩ ⟨Nat.le_refl _, Nat.le_refl _⟩ (Nat.le_of_ble_eq_true rfl) rfl dX12_readsMark_43 (fun H locs hH => ?_)
      refine x_bne (tgt := 51) hC dX12_readsMark_46 (by decide) (fun c46 => ?_) (fun c46 => ?_)
      · refine lv_aload_n hx hb dX12_readsMark_51 rfl (lv_at hl 1 rfl) ?_
        refine gf_X12_25 (v := .ref (ad 6)) hC hK hH 0 rfl rfl dX12_readsMark_52 ?_
        refine lv_iload_n hx hb dX12_readsMark_55 rfl (lv_at hl 2 rfl) ?_
        refine lv_dup2_11 hx hb dX12_readsMark_56 rfl rfl ?_
        refine x_ialN (f := (tN (σ 5) n kj 1 (i + 1) (σ 6))) hC hK hH 6 kj rfl hk hk7 (Nat.le_of_ble_eq_true rfl) dX12_readsMark_57 ?_
        refine lv_iload_n hx hb dX12_readsMark_58 rfl (lv_at hl 0 rfl) ?_
        refine lv_if_eq (tgt := 67) hx hb dX12_readsMark_59 (by decide) (fun c59 => ?_) (fun c59 => ?_)
        rotate_left
        · exact absurd c59 (by decide)
        refine lv_iconst (v := 0) hx hb dX12_readsMark_67 (by decide) ?_
        refine lv_iadd hx hb dX12_readsMark_68 ?_
        refine x_iasN (f := (tN (σ 5) n kj 1 (i + 1) (σ 6))) (ws' := WM G ad (ua (ua σ 0 (upd (σ 0) 8 (nI (gN (σ 5) n 1 (i + 1)).2))) 6 (upd (tN (σ 5) n kj 1 (i + 1) (σ 6)) kj (((tN (σ 5) n kj 1 (i + 1) (σ 6)) kj) + 0)))) hC hK hH 6 kj rfl hk hk7 (Nat.le_of_ble_eq_true rfl) dX12_readsMark_69 rfl (fun H locs hH => ?_)
        refine lv_iconst (v := 1) hx hb dX12_readsMark_70 (by decide) ?_
        exact x_zret hC hr hkL hH nar_bI (bI_t (by rw [gM_t bh_]; exact c46)) ((congrArg (fun z_ : Nat → Int32 => WM G ad (ua (ua σ 0 z_) 6 (tM (σ 5) n kj i (σ 6)))) (by first | (rw [gM_t bh_]; done) | (rw [gM_f (fun z => z.elim c6 c25)]; show upd _ 8 (nI i) = _; rw [← hi]; exact upd_id rfl) : (upd (σ 0) 8 (nI (gM (σ 5) n i).2)) = (upd (σ 0) 8 (nI (gN (σ 5) n 1 (i + 1)).2)))).trans (congrArg (fun z_ : Nat → Int32 => WM G ad (ua (ua σ 0 (upd (σ 0) 8 (nI (gN (σ 5) n 1 (i + 1)).2))) 6 z_)) (by first | (rw [tM_t bh_, cI_t c46, if_pos c6]; done) | (rw [tM_t bh_, cI_t c46, if_neg c6]; done) | (rw [tM_t bh_, cI_f c46]; done) | (rw [tM_f (fun z => z.elim c6 c25)]; done) : (tM (σ 5) n kj i (σ 6)) = (upd (tN (σ 5) n kj 1 (i + 1) (σ 6)) kj (((tN (σ 5) n kj 1 (i + 1) (σ 6)) kj) + 0))))) dX12_readsMark_71
      · refine lv_iconst (v := 0) hx hb dX12_readsMark_49 (by decide) ?_
        exact x_zret hC hr hkL hH nar_bI (bI_f (by first | (rw [gM_t bh_]; exact c46) | (rw [gM_f (fun z => z.elim c6 c25)]; exact fun z => z))) ((congrArg (fun z_ : Nat → Int32 => WM G ad (ua (ua σ 0 z_) 6 (tM (σ 5) n kj i (σ 6)))) (by first | (rw [gM_t bh_]; done) | (rw [gM_f (fun z => z.elim c6 c25)]; show upd _ 8 (nI i) = _; rw [← hi]; exact upd_id rfl) : (upd (σ 0) 8 (nI (gM (σ 5) n i).2)) = (upd (σ 0) 8 (nI (gN (σ 5) n 1 (i + 1)).2)))).trans (congrArg (fun z_ : Nat → Int32 => WM G ad (ua (ua σ 0 (upd (σ 0) 8 (nI (gN (σ 5) n 1 (i + 1)).2))) 6 z_)) (by first | (rw [tM_t bh_, cI_t c46, if_pos c6]; done) | (rw [tM_t bh_, cI_t c46, if_neg c6]; done) | (rw [tM_t bh_, cI_f c46]; done) | (rw [tM_f (fun z => z.elim c6 c25)]; done) : (tM (σ 5) n kj i (σ 6)) = (tN (σ 5) n kj 1 (i + 1) (σ 6))))) dX12_readsMark_50
    · refine lv_iconst (v := 0) hx hb dX12_readsMark_28 (by decide) ?_
      exact x_zret hC hr hkL hH nar_bI (bI_f (by first | (rw [gM_t bh_]; exact c46) | (rw [gM_f (fun z => z.elim c6 c25)]; exact fun z => z))) (((congrArg (fun z_ : Nat → Int32 => WM G ad (ua (ua σ 0 z_) 6 (tM (σ 5) n kj i (σ 6)))) (by first | (rw [gM_t bh_]; done) | (rw [gM_f (fun z => z.elim c6 c25)]; show upd _ 8 (nI i) = _; rw [← hi]; exact upd_id rfl) : (upd (σ 0) 8 (nI (gM (σ 5) n i).2)) = (σ 0))).trans (congrArg (fun z_ : Nat → Int32 => WM G ad (ua (ua σ 0 (σ 0)) 6 z_)) (by first | (rw [tM_t bh_, cI_t c46, if_pos c6]; done) | (rw [tM_t bh_, cI_t c46, if_neg c6]; done) | (rw [tM_t bh_, cI_f c46]; done) | (rw [tM_f (fun z => z.elim c6 c25)]; done) : (tM (σ 5) n kj i (σ 6)) = (σ 6)))).trans (show WM G ad (ua (ua σ 0 (σ 0)) 6 (σ 6)) = WM G ad σ from rfl)) dX12_readsMark_29
  · refine lv_iconst (v := 1) hx hb dX12_readsMark_9 (by decide) ?_
    refine lv_goto (tgt := 14) hx hb dX12_readsMark_10 (by decide) ?_
    refine lv_istore_n (lv' := [(2, .int 1), (0, .ref (ad 0)), (1, .int k)]) hx hb dX12_readsMark_14 rfl hl (by decide) rfl (fun ls hl => ?_)
    refine lv_iload_n hx hb dX12_readsMark_15 rfl (lv_at hl 0 rfl) ?_
    refine lv_if_ne (tgt := 30) hx hb dX12_readsMark_16 (by decide) (fun c16 => ?_) (fun c16 => ?_)
    rotate_left
    · exact absurd c16 (by decide)
    have bh_ : sgF (σ 5) n i = 98 ∨ sgF (σ 5) n i = 104 := (by first | exact Or.inl c6 | exact Or.inr c25)
    have lt_ : i < n := bh_.elim (fun z => sg_lt z (by decide)) (fun z => sg_lt z (by decide))
    refine lv_aload_n hx hb dX12_readsMark_30 rfl (lv_at hl 1 rfl) ?_
    refine lv_dup hx hb dX12_readsMark_31 rfl ?_
    refine gf_X12_51 (v := .int (σ 0 8)) hC hK hH 0 rfl rfl dX12_readsMark_32 ?_
    refine x_topE (y := (nI i)) hi ?_
    refine lv_iconst (v := 1) hx hb dX12_readsMark_35 (by decide) ?_
    refine lv_iadd hx hb dX12_readsMark_36 ?_
    refine x_topE (y := (nI (i + 1))) (nI_1 _) ?_
    refine pf_X12_51 (ws' := WM G ad (ua σ 0 (upd (σ 0) 8 (nI (i + 1))))) hC hK hH 0 rfl rfl rfl (Nat.le_of_ble_eq_true rfl) dX12_readsMark_37 rfl (fun H locs hH => ?_)
    refine lv_aload_n hx hb dX12_readsMark_40 rfl (lv_at hl 1 rfl) ?_
    refine lv_iload_n hx hb dX12_readsMark_41 rfl (lv_at hl 2 rfl) ?_
    refine lv_iconst (v := 1) hx hb dX12_readsMark_42 (by decide) ?_
    refine x_callVA (ws' := WM G ad (ua (ua σ 0 (upd (σ 0) 8 (nI (gN (σ 5) n 1 (i + 1)).2))) 6 (tN (σ 5) n kj 1 (i + 1) (σ 6)))) (As := [.int k, .int 1]) (rest := []) (st' := [.int (bI ((gN (σ 5) n 1 (i + 1)).1))]) hC hK hZ hA hl.1 hH (k_X12_readsNumber l G ad (ua σ 0 (upd (σ 0) 8 (nI (i + 1)))) k 1 n (i + 1) kj 1 hn hn80 rfl (by first | assumption | rfl | omega) hk hk7 rfl (by decide)) lk_X12_60 rfl 0 11 rfl rfl rfl ⟨Nat.le_of_ble_eq_true rfl, Nat.le_of_ble_eq_true rfl⟩ ⟨Nat.le_refl _, Nat.le_refl _⟩ (Nat.le_of_ble_eq_true rfl) rfl dX12_readsMark_43 (fun H locs hH => ?_)
    refine x_bne (tgt := 51) hC dX12_readsMark_46 (by decide) (fun c46 => ?_) (fun c46 => ?_)
    · refine lv_aload_n hx hb dX12_readsMark_51 rfl (lv_at hl 1 rfl) ?_
      refine gf_X12_25 (v := .ref (ad 6)) hC hK hH 0 rfl rfl dX12_readsMark_52 ?_
      refine lv_iload_n hx hb dX12_readsMark_55 rfl (lv_at hl 2 rfl) ?_
      refine lv_dup2_11 hx hb dX12_readsMark_56 rfl rfl ?_
      refine x_ialN (f := (tN (σ 5) n kj 1 (i + 1) (σ 6))) hC hK hH 6 kj rfl hk hk7 (Nat.le_of_ble_eq_true rfl) dX12_readsMark_57 ?_
      refine lv_iload_n hx hb dX12_readsMark_58 rfl (lv_at hl 0 rfl) ?_
      refine lv_if_eq (tgt := 67) hx hb dX12_readsMark_59 (by decide) (fun c59 => ?_) (fun c59 => ?_)
      · exact absurd c59 (by decide)
      refine lv_bipush (v := 10) hx hb dX12_readsMark_62 (by decide) ?_
      refine lv_goto (tgt := 68) hx hb dX12_readsMark_64 (by decide) ?_
      refine lv_iadd hx hb dX12_readsMark_68 ?_
      refine x_iasN (f := (tN (σ 5) n kj 1 (i + 1) (σ 6))) (ws' := WM G ad (ua (ua σ 0 (upd (σ 0) 8 (nI (gN (σ 5) n 1 (i + 1)).2))) 6 (upd (tN (σ 5) n kj 1 (i + 1) (σ 6)) kj (((tN (σ 5) n kj 1 (i + 1) (σ 6)) kj) + 10)))) hC hK hH 6 kj rfl hk hk7 (Nat.le_of_ble_eq_true rfl) dX12_readsMark_69 rfl (fun H locs hH => ?_)
      refine lv_iconst (v := 1) hx hb dX12_readsMark_70 (by decide) ?_
      exact x_zret hC hr hkL hH nar_bI (bI_t (by rw [gM_t bh_]; exact c46)) ((congrArg (fun z_ : Nat → Int32 => WM G ad (ua (ua σ 0 z_) 6 (tM (σ 5) n kj i (σ 6)))) (by first | (rw [gM_t bh_]; done) | (rw [gM_f (fun z => z.elim c6 c25)]; show upd _ 8 (nI i) = _; rw [← hi]; exact upd_id rfl) : (upd (σ 0) 8 (nI (gM (σ 5) n i).2)) = (upd (σ 0) 8 (nI (gN (σ 5) n 1 (i + 1)).2)))).trans (congrArg (fun z_ : Nat → Int32 => WM G ad (ua (ua σ 0 (upd (σ 0) 8 (nI (gN (σ 5) n 1 (i + 1)).2))) 6 z_)) (by first | (rw [tM_t bh_, cI_t c46, if_pos c6]; done) | (rw [tM_t bh_, cI_t c46, if_neg c6]; done) | (rw [tM_t bh_, cI_f c46]; done) | (rw [tM_f (fun z => z.elim c6 c25)]; done) : (tM (σ 5) n kj i (σ 6)) = (upd (tN (σ 5) n kj 1 (i + 1) (σ 6)) kj (((tN (σ 5) n kj 1 (i + 1) (σ 6)) kj) + 10))))) dX12_readsMark_71
    · refine lv_iconst (v := 0) hx hb dX12_readsMark_49 (by decide) ?_
      exact x_zret hC hr hkL hH nar_bI (bI_f (by first | (rw [gM_t bh_]; exact c46) | (rw [gM_f (fun z => z.elim c6 c25)]; exact fun z => z))) ((congrArg (fun z_ : Nat → Int32 => WM G ad (ua (ua σ 0 z_) 6 (tM (σ 5) n kj i (σ 6)))) (by first | (rw [gM_t bh_]; done) | (rw [gM_f (fun z => z.elim c6 c25)]; show upd _ 8 (nI i) = _; rw [← hi]; exact upd_id rfl) : (upd (σ 0) 8 (nI (gM (σ 5) n i).2)) = (upd (σ 0) 8 (nI (gN (σ 5) n 1 (i + 1)).2)))).trans (congrArg (fun z_ : Nat → Int32 => WM G ad (ua (ua σ 0 (upd (σ 0) 8 (nI (gN (σ 5) n 1 (i + 1)).2))) 6 z_)) (by first | (rw [tM_t bh_, cI_t c46, if_pos c6]; done) | (rw [tM_t bh_, cI_t c46, if_neg c6]; done) | (rw [tM_t bh_, cI_f c46]; done) | (rw [tM_f (fun z => z.elim c6 c25)]; done) : (tM (σ 5) n kj i (σ 6)) = (tN (σ 5) n kj 1 (i + 1) (σ 6))))) dX12_readsMark_50
set_option maxHeartbeats 4000000 in
set_option maxRecDepth 100000 in
theorem k_X12_readsStatement (l : Launch) (G : GP) (ad : Nat → Nat) (σ : Nat → Nat → Int32) (n : Nat) (i : Nat) (hn : (σ 0 7) = nI n) (hn80 : n ≤ 80) (hi : (σ 0 8) = nI i) (hin : i ≤ n) : CT l G yX12_readsStatement cX12_readsStatement 3 (some .boolean) 3 [.ref (ad 0)] (WM G ad σ) (some (.int (bI ((gS (σ 5) n i).1)))) (WM G ad (ua (ua σ 0 (upd (σ 0) 8 (nI (gS (σ 5) n i).2))) 6 (tS (σ 5) n i (σ 6)))) := by
  refine x_meth "BetsOnBetsModel" rfl (by decide +kernel) (by rfl) (Nat.le_of_ble_eq_true rfl) ?_
  intro pP eE sS mM args below meth cC A ls hC hr hkL hK hZ hA hH hl
  have hx := hC.1
  have hb := hC.2.1
  have hl : lv_has ls 3 [(0, .ref (ad 0))] := hl
  refine lv_aload_n hx hb dX12_readsStatement_0 rfl (lv_at hl 0 rfl) ?_
  refine x_callVA (ws' := WM G ad σ) (As := []) (rest := []) (st' := [.int (sgF (σ 5) n i)]) hC hK hZ hA hl.1 hH (k_X12_sign l G ad σ n i hn hn80 hi hin) lk_X12_54 rfl 0 11 rfl rfl rfl ⟨Nat.le_of_ble_eq_true rfl, Nat.le_of_ble_eq_true rfl⟩ ⟨Nat.le_refl _, Nat.le_refl _⟩ (Nat.le_of_ble_eq_true rfl) rfl dX12_readsStatement_1 (fun H locs hH => ?_)
  refine lv_istore_n (lv' := [(1, .int (sgF (σ 5) n i)), (0, .ref (ad 0))]) hx hb dX12_readsStatement_4 rfl hl (by decide) rfl (fun ls hl => ?_)
  refine lv_iconst (v := 0) hx hb dX12_readsStatement_5 (by decide) ?_
  refine lv_istore_n (lv' := [(2, .int 0), (1, .int (sgF (σ 5) n i)), (0, .ref (ad 0))]) hx hb dX12_readsStatement_6 rfl hl (by decide) rfl (fun ls hl => ?_)
  refine lv_aload_n hx hb dX12_readsStatement_7 rfl (lv_at hl 2 rfl) ?_
  refine lv_dup hx hb dX12_readsStatement_8 rfl ?_
  refine gf_X12_51 (v := .int (σ 0 8)) hC hK hH 0 rfl rfl dX12_readsStatement_9 ?_
  refine x_topE (y := (nI i)) hi ?_
  refine lv_iconst (v := 1) hx hb dX12_readsStatement_12 (by decide) ?_
  refine lv_iadd hx hb dX12_readsStatement_13 ?_
  refine x_topE (y := (nI (i + 1))) (nI_1 _) ?_
  refine pf_X12_51 (ws' := WM G ad (ua σ 0 (upd (σ 0) 8 (nI (i + 1))))) hC hK hH 0 rfl rfl rfl (Nat.le_of_ble_eq_true rfl) dX12_readsStatement_14 rfl (fun H locs hH => ?_)
  refine lv_iload_n hx hb dX12_readsStatement_17 rfl (lv_at hl 1 rfl) ?_
  rcases swS (sgF (σ 5) n i) with hbb | hf | hh | hd
  · refine x_topE (y := 98) hbb ?_
    refine lv_lookup (tgt := 62) hx hb dX12_readsStatement_18 (by decide) rfl (by decide) ?_
    refine x_meet1 (G := G) (A := A) (H0 := sS.heap) (nL := 3) (WM G ad (ua (ua σ 0 (upd (σ 0) 8 (nI (c98 (σ 5) n (i + 1)).2))) 6 (t98 (σ 5) n (i + 1) (σ 6)))) [(0, .ref (ad 0)), (1, .int (sgF (σ 5) n i)), (2, .int 0)] 136 [.int (bI ((c98 (σ 5) n (i + 1)).1))] ?_ ?_
    · intro H locs ls hH hl
      refine lv_istore_n (lv' := [(2, .int (bI ((c98 (σ 5) n (i + 1)).1))), (0, .ref (ad 0)), (1, .int (sgF (σ 5) n i))]) hx hb dX12_readsStatement_136 rfl hl (by decide) rfl (fun ls hl => ?_)
      refine lv_goto (tgt := 188) hx hb dX12_readsStatement_137 (by decide) ?_
      refine lv_iload_n hx hb dX12_readsStatement_188 rfl (lv_at hl 0 rfl) ?_
      refine x_beq (tgt := 205) hC dX12_readsStatement_189 (by decide) (fun c189 => ?_) (fun c189 => ?_)
      · refine lv_iconst (v := 0) hx hb dX12_readsStatement_205 (by decide) ?_
        exact x_zret hC hr hkL hH nar_bI (bI_f (by first | (rw [gS_d hd]; exact fun z => z) | (rw [gS_h hh, fin_t c189]; exact c198) | (rw [gS_b hbb, fin_t c189]; exact c198) | (rw [gS_f hf, fin_t c189]; exact c198) | (rw [gS_h hh, fin_f c189]; exact c189) | (rw [gS_b hbb, fin_f c189]; exact c189) | (rw [gS_f hf, fin_f c189]; exact c189))) ((congrArg (fun z_ : Nat → Int32 => WM G ad (ua (ua σ 0 z_) 6 (tS (σ 5) n i (σ 6)))) (by first | (rw [gS_d hd]; done) | (rw [gS_h hh, fin_t c189]; done) | (rw [gS_b hbb, fin_t c189]; done) | (rw [gS_f hf, fin_t c189]; done) | (rw [gS_h hh, fin_f c189]; done) | (rw [gS_b hbb, fin_f c189]; done) | (rw [gS_f hf, fin_f c189]; done) : (upd (σ 0) 8 (nI (gS (σ 5) n i).2)) = (upd (σ 0) 8 (nI (c98 (σ 5) n (i + 1)).2)))).trans (congrArg (fun z_ : Nat → Int32 => WM G ad (ua (ua σ 0 (upd (σ 0) 8 (nI (c98 (σ 5) n (i + 1)).2))) 6 z_)) (by first | (rw [tS_d hd]; done) | (rw [tS_h hh]; done) | (rw [tS_b hbb]; done) | (rw [tS_f hf]; done) : (tS (σ 5) n i (σ 6)) = (t98 (σ 5) n (i + 1) (σ 6))))) dX12_readsStatement_206
      · refine lv_aload_n hx hb dX12_readsStatement_192 rfl (lv_at hl 1 rfl) ?_
        refine lv_bipush (v := 59) hx hb dX12_readsStatement_193 (by decide) ?_
        refine x_callVA (ws' := WM G ad (ua (ua σ 0 (upd (σ 0) 8 (nI (gT (σ 5) n 59 ((c98 (σ 5) n (i + 1)).2)).2))) 6 (t98 (σ 5) n (i + 1) (σ 6)))) (As := [.int 59]) (rest := []) (st' := [.int (bI ((gT (σ 5) n 59 ((c98 (σ 5) n (i + 1)).2)).1))]) hC hK hZ hA hl.1 hH (k_X12_takes l G ad (ua (ua σ 0 (upd (σ 0) 8 (nI (c98 (σ 5) n (i + 1)).2))) 6 (t98 (σ 5) n (i + 1) (σ 6))) 59 n ((c98 (σ 5) n (i + 1)).2) hn hn80 rfl (by first | exact gN_le (sg_lt hh (by decide)) | exact c98_le (sg_lt hbb (by decide)) | exact c102_le (sg_lt hf (by decide)))) lk_X12_71 rfl 0 11 rfl rfl rfl ⟨Nat.le_of_ble_eq_true rfl, Nat.le_of_ble_eq_true rfl⟩ ⟨Nat.le_refl _, Nat.le_refl _⟩ (Nat.le_of_ble_eq_true rfl) rfl dX12_readsStatement_195 (fun H locs hH => ?_)
        refine x_beq (tgt := 205) hC dX12_readsStatement_198 (by decide) (fun c198 => ?_) (fun c198 => ?_)
        · refine lv_iconst (v := 0) hx hb dX12_readsStatement_205 (by decide) ?_
          exact x_zret hC hr hkL hH nar_bI (bI_f (by first | (rw [gS_d hd]; exact fun z => z) | (rw [gS_h hh, fin_t c189]; exact c198) | (rw [gS_b hbb, fin_t c189]; exact c198) | (rw [gS_f hf, fin_t c189]; exact c198) | (rw [gS_h hh, fin_f c189]; exact c189) | (rw [gS_b hbb, fin_f c189]; exact c189) | (rw [gS_f hf, fin_f c189]; exact c189))) ((congrArg (fun z_ : Nat → Int32 => WM G ad (ua (ua σ 0 z_) 6 (tS (σ 5) n i (σ 6)))) (by first | (rw [gS_d hd]; done) | (rw [gS_h hh, fin_t c189]; done) | (rw [gS_b hbb, fin_t c189]; done) | (rw [gS_f hf, fin_t c189]; done) | (rw [gS_h hh, fin_f c189]; done) | (rw [gS_b hbb, fin_f c189]; done) | (rw [gS_f hf, fin_f c189]; done) : (upd (σ 0) 8 (nI (gS (σ 5) n i).2)) = (upd (σ 0) 8 (nI (gT (σ 5) n 59 ((c98 (σ 5) n (i + 1)).2)).2)))).trans (congrArg (fun z_ : Nat → Int32 => WM G ad (ua (ua σ 0 (upd (σ 0) 8 (nI (gT (σ 5) n 59 ((c98 (σ 5) n (i + 1)).2)).2))) 6 z_)) (by first | (rw [tS_d hd]; done) | (rw [tS_h hh]; done) | (rw [tS_b hbb]; done) | (rw [tS_f hf]; done) : (tS (σ 5) n i (σ 6)) = (t98 (σ 5) n (i + 1) (σ 6))))) dX12_readsStatement_206
        · refine lv_iconst (v := 1) hx hb dX12_readsStatement_201 (by decide) ?_
          refine lv_goto (tgt := 206) hx hb dX12_readsStatement_202 (by decide) ?_
          exact x_zret hC hr hkL hH nar_bI (bI_t (by first | (rw [gS_h hh, fin_t c189]; exact c198) | (rw [gS_b hbb, fin_t c189]; exact c198) | (rw [gS_f hf, fin_t c189]; exact c198))) ((congrArg (fun z_ : Nat → Int32 => WM G ad (ua (ua σ 0 z_) 6 (tS (σ 5) n i (σ 6)))) (by first | (rw [gS_d hd]; done) | (rw [gS_h hh, fin_t c189]; done) | (rw [gS_b hbb, fin_t c189]; done) | (rw [gS_f hf, fin_t c189]; done) | (rw [gS_h hh, fin_f c189]; done) | (rw [gS_b hbb, fin_f c189]; done) | (rw [gS_f hf, fin_f c189]; done) : (upd (σ 0) 8 (nI (gS (σ 5) n i).2)) = (upd (σ 0) 8 (nI (gT (σ 5) n 59 ((c98 (σ 5) n (i + 1)).2)).2)))).trans (congrArg (fun z_ : Nat → Int32 => WM G ad (ua (ua σ 0 (upd (σ 0) 8 (nI (gT (σ 5) n 59 ((c98 (σ 5) n (i + 1)).2)).2))) 6 z_)) (by first | (rw [tS_d hd]; done) | (rw [tS_h hh]; done) | (rw [tS_b hbb]; done) | (rw [tS_f hf]; done) : (tS (σ 5) n i (σ 6)) = (t98 (σ 5) n (i + 1) (σ 6))))) dX12_readsStatement_206
    · intro kJ62
      refine lv_aload_n hx hb dX12_readsStatement_62 rfl (lv_at hl 2 rfl) ?_
      refine x_callVA (ws' := WM G ad (ua (ua σ 0 (upd (σ 0) 8 (nI (u1 (σ 5) n (i + 1)).2))) 6 (v1 (σ 5) n (i + 1) (σ 6)))) (As := []) (rest := []) (st' := [.int (bI ((u1 (σ 5) n (i + 1)).1))]) hC hK hZ hA hl.1 hH (k_X12_readsKind l G ad (ua σ 0 (upd (σ 0) 8 (nI (i + 1)))) n (i + 1) hn hn80 rfl (sg_lt hbb (by decide))) lk_X12_63 rfl 0 11 rfl rfl rfl ⟨Nat.le_of_ble_eq_true rfl, Nat.le_of_ble_eq_true rfl⟩ ⟨Nat.le_refl _, Nat.le_refl _⟩ (Nat.le_of_ble_eq_true rfl) rfl dX12_readsStatement_63 (fun H locs hH => ?_)
      refine x_beq (tgt := 135) hC dX12_readsStatement_66 (by decide) (fun c66 => ?_) (fun c66 => ?_)
      · refine lv_iconst (v := 0) hx hb dX12_readsStatement_135 (by decide) ?_
        refine x_topE (y := (bI ((c98 (σ 5) n (i + 1)).1))) (by exact (bI_f (by rw [show c98 (σ 5) n (i + 1) = _ from cI_f c66]; exact c66)).symm) ?_
        exact kJ62 _ _ _ (hH.eq ((congrArg (fun z_ : Nat → Int32 => WM G ad (ua (ua σ 0 z_) 6 (v1 (σ 5) n (i + 1) (σ 6)))) (by exact congrArg (fun z_ : Pg => upd (σ 0) 8 (nI z_.2)) (Eq.symm (a := c98 (σ 5) n (i + 1)) (cI_f c66)) : (upd (σ 0) 8 (nI (u1 (σ 5) n (i + 1)).2)) = (upd (σ 0) 8 (nI (c98 (σ 5) n (i + 1)).2)))).trans (congrArg (fun z_ : Nat → Int32 => WM G ad (ua (ua σ 0 (upd (σ 0) 8 (nI (c98 (σ 5) n (i + 1)).2))) 6 z_)) (by exact Eq.symm (a := t98 (σ 5) n (i + 1) (σ 6)) (cI_f c66) : (v1 (σ 5) n (i + 1) (σ 6)) = (t98 (σ 5) n (i + 1) (σ 6)))))) (lv_eq (lv_sub hl [2, 1, 0] rfl) (lc_s (lc_s (lc_s rfl))))
      · refine lv_aload_n hx hb dX12_readsStatement_69 rfl (lv_at hl 2 rfl) ?_
        refine lv_iconst (v := 1) hx hb dX12_readsStatement_70 (by decide) ?_
        refine x_callVA (ws' := WM G ad (ua (ua σ 0 (upd (σ 0) 8 (nI (u2 (σ 5) n (i + 1)).2))) 6 (v2 (σ 5) n (i + 1) (σ 6)))) (As := [.int 1]) (rest := []) (st' := [.int (bI ((u2 (σ 5) n (i + 1)).1))]) hC hK hZ hA hl.1 hH (k_X12_readsMark l G ad (ua (ua σ 0 (upd (σ 0) 8 (nI (u1 (σ 5) n (i + 1)).2))) 6 (v1 (σ 5) n (i + 1) (σ 6))) 1 n ((u1 (σ 5) n (i + 1)).2) 1 hn hn80 rfl (u1_le (sg_lt hbb (by decide))) rfl (by decide)) lk_X12_67 rfl 0 11 rfl rfl rfl ⟨Nat.le_of_ble_eq_true rfl, Nat.le_of_ble_eq_true rfl⟩ ⟨Nat.le_refl _, Nat.le_refl _⟩ (Nat.le_of_ble_eq_true rfl) rfl dX12_readsStatement_71 (fun H locs hH => ?_)
        refine x_beq (tgt := 135) hC dX12_readsStatement_74 (by decide) (fun c74 => ?_) (fun c74 => ?_)
        · refine lv_iconst (v := 0) hx hb dX12_readsStatement_135 (by decide) ?_
          refine x_topE (y := (bI ((c98 (σ 5) n (i + 1)).1))) (by exact (bI_f (by rw [show c98 (σ 5) n (i + 1) = _ from (cI_t c66).trans (cI_f c74)]; exact c74)).symm) ?_
          exact kJ62 _ _ _ (hH.eq ((congrArg (fun z_ : Nat → Int32 => WM G ad (ua (ua σ 0 z_) 6 (v2 (σ 5) n (i + 1) (σ 6)))) (by exact congrArg (fun z_ : Pg => upd (σ 0) 8 (nI z_.2)) (Eq.symm (a := c98 (σ 5) n (i + 1)) ((cI_t c66).trans (cI_f c74))) : (upd (σ 0) 8 (nI (u2 (σ 5) n (i + 1)).2)) = (upd (σ 0) 8 (nI (c98 (σ 5) n (i + 1)).2)))).trans (congrArg (fun z_ : Nat → Int32 => WM G ad (ua (ua σ 0 (upd (σ 0) 8 (nI (c98 (σ 5) n (i + 1)).2))) 6 z_)) (by exact Eq.symm (a := t98 (σ 5) n (i + 1) (σ 6)) ((cI_t c66).trans (cI_f c74)) : (v2 (σ 5) n (i + 1) (σ 6)) = (t98 (σ 5) n (i + 1) (σ 6)))))) (lv_eq (lv_sub hl [2, 1, 0] rfl) (lc_s (lc_s (lc_s rfl))))
        · refine lv_aload_n hx hb dX12_readsStatement_77 rfl (lv_at hl 2 rfl) ?_
          refine lv_iconst (v := 2) hx hb dX12_readsStatement_78 (by decide) ?_
          refine x_callVA (ws' := WM G ad (ua (ua σ 0 (upd (σ 0) 8 (nI (u3 (σ 5) n (i + 1)).2))) 6 (v3 (σ 5) n (i + 1) (σ 6)))) (As := [.int 2]) (rest := []) (st' := [.int (bI ((u3 (σ 5) n (i + 1)).1))]) hC hK hZ hA hl.1 hH (k_X12_readsMark l G ad (ua (ua σ 0 (upd (σ 0) 8 (nI (u2 (σ 5) n (i + 1)).2))) 6 (v2 (σ 5) n (i + 1) (σ 6))) 2 n ((u2 (σ 5) n (i + 1)).2) 2 hn hn80 rfl (u2_le (sg_lt hbb (by decide))) rfl (by decide)) lk_X12_67 rfl 0 11 rfl rfl rfl ⟨Nat.le_of_ble_eq_true rfl, Nat.le_of_ble_eq_true rfl⟩ ⟨Nat.le_refl _, Nat.le_refl _⟩ (Nat.le_of_ble_eq_true rfl) rfl dX12_readsStatement_79 (fun H locs hH => ?_)
          refine x_beq (tgt := 135) hC dX12_readsStatement_82 (by decide) (fun c82 => ?_) (fun c82 => ?_)
          · refine lv_iconst (v := 0) hx hb dX12_readsStatement_135 (by decide) ?_
            refine x_topE (y := (bI ((c98 (σ 5) n (i + 1)).1))) (by exact (bI_f (by rw [show c98 (σ 5) n (i + 1) = _ from (cI_t c66).trans ((cI_t c74).trans (cI_f c82))]; exact c82)).symm) ?_
            exact kJ62 _ _ _ (hH.eq ((congrArg (fun z_ : Nat → Int32 => WM G ad (ua (ua σ 0 z_) 6 (v3 (σ 5) n (i + 1) (σ 6)))) (by exact congrArg (fun z_ : Pg => upd (σ 0) 8 (nI z_.2)) (Eq.symm (a := c98 (σ 5) n (i + 1)) ((cI_t c66).trans ((cI_t c74).trans (cI_f c82)))) : (upd (σ 0) 8 (nI (u3 (σ 5) n (i + 1)).2)) = (upd (σ 0) 8 (nI (c98 (σ 5) n (i + 1)).2)))).trans (congrArg (fun z_ : Nat → Int32 => WM G ad (ua (ua σ 0 (upd (σ 0) 8 (nI (c98 (σ 5) n (i + 1)).2))) 6 z_)) (by exact Eq.symm (a := t98 (σ 5) n (i + 1) (σ 6)) ((cI_t c66).trans ((cI_t c74).trans (cI_f c82))) : (v3 (σ 5) n (i + 1) (σ 6)) = (t98 (σ 5) n (i + 1) (σ 6)))))) (lv_eq (lv_sub hl [2, 1, 0] rfl) (lc_s (lc_s (lc_s rfl))))
          · refine lv_aload_n hx hb dX12_readsStatement_85 rfl (lv_at hl 2 rfl) ?_
            refine lv_iconst (v := 3) hx hb dX12_readsStatement_86 (by decide) ?_
            refine lv_iconst (v := 2) hx hb dX12_readsStatement_87 (by decide) ?_
            refine x_callVA (ws' := WM G ad (ua (ua σ 0 (upd (σ 0) 8 (nI (u4 (σ 5) n (i + 1)).2))) 6 (v4 (σ 5) n (i + 1) (σ 6)))) (As := [.int 3, .int 2]) (rest := []) (st' := [.int (bI ((u4 (σ 5) n (i + 1)).1))]) hC hK hZ hA hl.1 hH (k_X12_readsNumber l G ad (ua (ua σ 0 (upd (σ 0) 8 (nI (u3 (σ 5) n (i + 1)).2))) 6 (v3 (σ 5) n (i + 1) (σ 6))) 3 2 n ((u3 (σ 5) n (i + 1)).2) 3 2 hn hn80 rfl (u3_le (sg_lt hbb (by decide))) rfl (by decide) rfl (by decide)) lk_X12_60 rfl 0 11 rfl rfl rfl ⟨Nat.le_of_ble_eq_true rfl, Nat.le_of_ble_eq_true rfl⟩ ⟨Nat.le_refl _, Nat.le_refl _⟩ (Nat.le_of_ble_eq_true rfl) rfl dX12_readsStatement_88 (fun H locs hH => ?_)
            refine x_beq (tgt := 135) hC dX12_readsStatement_91 (by decide) (fun c91 => ?_) (fun c91 => ?_)
            · refine lv_iconst (v := 0) hx hb dX12_readsStatement_135 (by decide) ?_
              refine x_topE (y := (bI ((c98 (σ 5) n (i + 1)).1))) (by exact (bI_f (by rw [show c98 (σ 5) n (i + 1) = _ from (cI_t c66).trans ((cI_t c74).trans ((cI_t c82).trans (cI_f c91)))]; exact c91)).symm) ?_
              exact kJ62 _ _ _ (hH.eq ((congrArg (fun z_ : Nat → Int32 => WM G ad (ua (ua σ 0 z_) 6 (v4 (σ 5) n (i + 1) (σ 6)))) (by exact congrArg (fun z_ : Pg => upd (σ 0) 8 (nI z_.2)) (Eq.symm (a := c98 (σ 5) n (i + 1)) ((cI_t c66).trans ((cI_t c74).trans ((cI_t c82).trans (cI_f c91))))) : (upd (σ 0) 8 (nI (u4 (σ 5) n (i + 1)).2)) = (upd (σ 0) 8 (nI (c98 (σ 5) n (i + 1)).2)))).trans (congrArg (fun z_ : Nat → Int32 => WM G ad (ua (ua σ 0 (upd (σ 0) 8 (nI (c98 (σ 5) n (i + 1)).2))) 6 z_)) (by exact Eq.symm (a := t98 (σ 5) n (i + 1) (σ 6)) ((cI_t c66).trans ((cI_t c74).trans ((cI_t c82).trans (cI_f c91)))) : (v4 (σ 5) n (i + 1) (σ 6)) = (t98 (σ 5) n (i + 1) (σ 6)))))) (lv_eq (lv_sub hl [2, 1, 0] rfl) (lc_s (lc_s (lc_s rfl))))
            · refine lv_aload_n hx hb dX12_readsStatement_94 rfl (lv_at hl 2 rfl) ?_
              refine lv_bipush (v := 44) hx hb dX12_readsStatement_95 (by decide) ?_
              refine x_callVA (ws' := WM G ad (ua (ua σ 0 (upd (σ 0) 8 (nI (u5 (σ 5) n (i + 1)).2))) 6 (v4 (σ 5) n (i + 1) (σ 6)))) (As := [.int 44]) (rest := []) (st' := [.int (bI ((u5 (σ 5) n (i + 1)).1))]) hC hK hZ hA hl.1 hH (k_X12_takes l G ad (ua (ua σ 0 (upd (σ 0) 8 (nI (u4 (σ 5) n (i + 1)).2))) 6 (v4 (σ 5) n (i + 1) (σ 6))) 44 n ((u4 (σ 5) n (i + 1)).2) hn hn80 rfl (u4_le (sg_lt hbb (by decide)))) lk_X12_71 rfl 0 11 rfl rfl rfl ⟨Nat.le_of_ble_eq_true rfl, Nat.le_of_ble_eq_true rfl⟩ ⟨Nat.le_refl _, Nat.le_refl _⟩ (Nat.le_of_ble_eq_true rfl) rfl dX12_readsStatement_97 (fun H locs hH => ?_)
              refine x_beq (tgt := 135) hC dX12_readsStatement_100 (by decide) (fun c100 => ?_) (fun c100 => ?_)
              · refine lv_iconst (v := 0) hx hb dX12_readsStatement_135 (by decide) ?_
                refine x_topE (y := (bI ((c98 (σ 5) n (i + 1)).1))) (by exact (bI_f (by rw [show c98 (σ 5) n (i + 1) = _ from (cI_t c66).trans ((cI_t c74).trans ((cI_t c82).trans ((cI_t c91).trans (cI_f c100))))]; exact c100)).symm) ?_
                exact kJ62 _ _ _ (hH.eq ((congrArg (fun z_ : Nat → Int32 => WM G ad (ua (ua σ 0 z_) 6 (v4 (σ 5) n (i + 1) (σ 6)))) (by exact congrArg (fun z_ : Pg => upd (σ 0) 8 (nI z_.2)) (Eq.symm (a := c98 (σ 5) n (i + 1)) ((cI_t c66).trans ((cI_t c74).trans ((cI_t c82).trans ((cI_t c91).trans (cI_f c100)))))) : (upd (σ 0) 8 (nI (u5 (σ 5) n (i + 1)).2)) = (upd (σ 0) 8 (nI (c98 (σ 5) n (i + 1)).2)))).trans (congrArg (fun z_ : Nat → Int32 => WM G ad (ua (ua σ 0 (upd (σ 0) 8 (nI (c98 (σ 5) n (i + 1)).2))) 6 z_)) (by exact Eq.symm (a := t98 (σ 5) n (i + 1) (σ 6)) ((cI_t c66).trans ((cI_t c74).trans ((cI_t c82).trans ((cI_t c91).trans (cI_f c100))))) : (v4 (σ 5) n (i + 1) (σ 6)) = (t98 (σ 5) n (i + 1) (σ 6)))))) (lv_eq (lv_sub hl [2, 1, 0] rfl) (lc_s (lc_s (lc_s rfl))))
              · refine lv_aload_n hx hb dX12_readsStatement_103 rfl (lv_at hl 2 rfl) ?_
                refine lv_iconst (v := 4) hx hb dX12_readsStatement_104 (by decide) ?_
                refine lv_iconst (v := 1) hx hb dX12_readsStatement_105 (by decide) ?_
                refine x_callVA (ws' := WM G ad (ua (ua σ 0 (upd (σ 0) 8 (nI (u6 (σ 5) n (i + 1)).2))) 6 (v6 (σ 5) n (i + 1) (σ 6)))) (As := [.int 4, .int 1]) (rest := []) (st' := [.int (bI ((u6 (σ 5) n (i + 1)).1))]) hC hK hZ hA hl.1 hH (k_X12_readsNumber l G ad (ua (ua σ 0 (upd (σ 0) 8 (nI (u5 (σ 5) n (i + 1)).2))) 6 (v4 (σ 5) n (i + 1) (σ 6))) 4 1 n ((u5 (σ 5) n (i + 1)).2) 4 1 hn hn80 rfl (u5_le (sg_lt hbb (by decide))) rfl (by decide) rfl (by decide)) lk_X12_60 rfl 0 11 rfl rfl rfl ⟨Nat.le_of_ble_eq_true rfl, Nat.le_of_ble_eq_true rfl⟩ ⟨Nat.le_refl _, Nat.le_refl _⟩ (Nat.le_of_ble_eq_true rfl) rfl dX12_readsStatement_106 (fun H locs hH => ?_)
                refine x_beq (tgt := 135) hC dX12_readsStatement_109 (by decide) (fun c109 => ?_) (fun c109 => ?_)
                · refine lv_iconst (v := 0) hx hb dX12_readsStatement_135 (by decide) ?_
                  refine x_topE (y := (bI ((c98 (σ 5) n (i + 1)).1))) (by exact (bI_f (by rw [show c98 (σ 5) n (i + 1) = _ from (cI_t c66).trans ((cI_t c74).trans ((cI_t c82).trans ((cI_t c91).trans ((cI_t c100).trans (cI_f c109)))))]; exact c109)).symm) ?_
                  exact kJ62 _ _ _ (hH.eq ((congrArg (fun z_ : Nat → Int32 => WM G ad (ua (ua σ 0 z_) 6 (v6 (σ 5) n (i + 1) (σ 6)))) (by exact congrArg (fun z_ : Pg => upd (σ 0) 8 (nI z_.2)) (Eq.symm (a := c98 (σ 5) n (i + 1)) ((cI_t c66).trans ((cI_t c74).trans ((cI_t c82).trans ((cI_t c91).trans ((cI_t c100).trans (cI_f c109))))))) : (upd (σ 0) 8 (nI (u6 (σ 5) n (i + 1)).2)) = (upd (σ 0) 8 (nI (c98 (σ 5) n (i + 1)).2)))).trans (congrArg (fun z_ : Nat → Int32 => WM G ad (ua (ua σ 0 (upd (σ 0) 8 (nI (c98 (σ 5) n (i + 1)).2))) 6 z_)) (by exact Eq.symm (a := t98 (σ 5) n (i + 1) (σ 6)) ((cI_t c66).trans ((cI_t c74).trans ((cI_t c82).trans ((cI_t c91).trans ((cI_t c100).trans (cI_f c109)))))) : (v6 (σ 5) n (i + 1) (σ 6)) = (t98 (σ 5) n (i + 1) (σ 6)))))) (lv_eq (lv_sub hl [2, 1, 0] rfl) (lc_s (lc_s (lc_s rfl))))
                · refine lv_aload_n hx hb dX12_readsStatement_112 rfl (lv_at hl 2 rfl) ?_
                  refine lv_iconst (v := 5) hx hb dX12_readsStatement_113 (by decide) ?_
                  refine lv_iconst (v := 1) hx hb dX12_readsStatement_114 (by decide) ?_
                  refine x_callVA (ws' := WM G ad (ua (ua σ 0 (upd (σ 0) 8 (nI (u7 (σ 5) n (i + 1)).2))) 6 (v7 (σ 5) n (i + 1) (σ 6)))) (As := [.int 5, .int 1]) (rest := []) (st' := [.int (bI ((u7 (σ 5) n (i + 1)).1))]) hC hK hZ hA hl.1 hH (k_X12_readsNumber l G ad (ua (ua σ 0 (upd (σ 0) 8 (nI (u6 (σ 5) n (i + 1)).2))) 6 (v6 (σ 5) n (i + 1) (σ 6))) 5 1 n ((u6 (σ 5) n (i + 1)).2) 5 1 hn hn80 rfl (u6_le (sg_lt hbb (by decide))) rfl (by decide) rfl (by decide)) lk_X12_60 rfl 0 11 rfl rfl rfl ⟨Nat.le_of_ble_eq_true rfl, Nat.le_of_ble_eq_true rfl⟩ ⟨Nat.le_refl _, Nat.le_refl _⟩ (Nat.le_of_ble_eq_true rfl) rfl dX12_readsStatement_115 (fun H locs hH => ?_)
                  refine x_beq (tgt := 135) hC dX12_readsStatement_118 (by decide) (fun c118 => ?_) (fun c118 => ?_)
                  · refine lv_iconst (v := 0) hx hb dX12_readsStatement_135 (by decide) ?_
                    refine x_topE (y := (bI ((c98 (σ 5) n (i + 1)).1))) (by exact (bI_f (by rw [show c98 (σ 5) n (i + 1) = _ from (cI_t c66).trans ((cI_t c74).trans ((cI_t c82).trans ((cI_t c91).trans ((cI_t c100).trans ((cI_t c109).trans (cI_f c118))))))]; exact c118)).symm) ?_
                    exact kJ62 _ _ _ (hH.eq ((congrArg (fun z_ : Nat → Int32 => WM G ad (ua (ua σ 0 z_) 6 (v7 (σ 5) n (i + 1) (σ 6)))) (by exact congrArg (fun z_ : Pg => upd (σ 0) 8 (nI z_.2)) (Eq.symm (a := c98 (σ 5) n (i + 1)) ((cI_t c66).trans ((cI_t c74).trans ((cI_t c82).trans ((cI_t c91).trans ((cI_t c100).trans ((cI_t c109).trans (cI_f c118)))))))) : (upd (σ 0) 8 (nI (u7 (σ 5) n (i + 1)).2)) = (upd (σ 0) 8 (nI (c98 (σ 5) n (i + 1)).2)))).trans (congrArg (fun z_ : Nat → Int32 => WM G ad (ua (ua σ 0 (upd (σ 0) 8 (nI (c98 (σ 5) n (i + 1)).2))) 6 z_)) (by exact Eq.symm (a := t98 (σ 5) n (i + 1) (σ 6)) ((cI_t c66).trans ((cI_t c74).trans ((cI_t c82).trans ((cI_t c91).trans ((cI_t c100).trans ((cI_t c109).trans (cI_f c118))))))) : (v7 (σ 5) n (i + 1) (σ 6)) = (t98 (σ 5) n (i + 1) (σ 6)))))) (lv_eq (lv_sub hl [2, 1, 0] rfl) (lc_s (lc_s (lc_s rfl))))
                  · refine lv_aload_n hx hb dX12_readsStatement_121 rfl (lv_at hl 2 rfl) ?_
                    refine lv_bipush (v := 6) hx hb dX12_readsStatement_122 (by decide) ?_
                    refine lv_iconst (v := 1) hx hb dX12_readsStatement_124 (by decide) ?_
                    refine x_callVA (ws' := WM G ad (ua (ua σ 0 (upd (σ 0) 8 (nI (u8 (σ 5) n (i + 1)).2))) 6 (v8 (σ 5) n (i + 1) (σ 6)))) (As := [.int 6, .int 1]) (rest := []) (st' := [.int (bI ((u8 (σ 5) n (i + 1)).1))]) hC hK hZ hA hl.1 hH (k_X12_readsNumber l G ad (ua (ua σ 0 (upd (σ 0) 8 (nI (u7 (σ 5) n (i + 1)).2))) 6 (v7 (σ 5) n (i + 1) (σ 6))) 6 1 n ((u7 (σ 5) n (i + 1)).2) 6 1 hn hn80 rfl (u7_le (sg_lt hbb (by decide))) rfl (by decide) rfl (by decide)) lk_X12_60 rfl 0 11 rfl rfl rfl ⟨Nat.le_of_ble_eq_true rfl, Nat.le_of_ble_eq_true rfl⟩ ⟨Nat.le_refl _, Nat.le_refl _⟩ (Nat.le_of_ble_eq_true rfl) rfl dX12_readsStatement_125 (fun H locs hH => ?_)
                    refine x_beq (tgt := 135) hC dX12_readsStatement_128 (by decide) (fun c128 => ?_) (fun c128 => ?_)
                    · refine lv_iconst (v := 0) hx hb dX12_readsStatement_135 (by decide) ?_
                      refine x_topE (y := (bI ((c98 (σ 5) n (i + 1)).1))) (by exact (bI_f (by rw [show c98 (σ 5) n (i + 1) = _ from (cI_t c66).trans ((cI_t c74).trans ((cI_t c82).trans ((cI_t c91).trans ((cI_t c100).trans ((cI_t c109).trans (cI_t c118))))))]; exact c128)).symm) ?_
                      exact kJ62 _ _ _ (hH.eq ((congrArg (fun z_ : Nat → Int32 => WM G ad (ua (ua σ 0 z_) 6 (v8 (σ 5) n (i + 1) (σ 6)))) (by exact congrArg (fun z_ : Pg => upd (σ 0) 8 (nI z_.2)) (Eq.symm (a := c98 (σ 5) n (i + 1)) ((cI_t c66).trans ((cI_t c74).trans ((cI_t c82).trans ((cI_t c91).trans ((cI_t c100).trans ((cI_t c109).trans (cI_t c118)))))))) : (upd (σ 0) 8 (nI (u8 (σ 5) n (i + 1)).2)) = (upd (σ 0) 8 (nI (c98 (σ 5) n (i + 1)).2)))).trans (congrArg (fun z_ : Nat → Int32 => WM G ad (ua (ua σ 0 (upd (σ 0) 8 (nI (c98 (σ 5) n (i + 1)).2))) 6 z_)) (by exact Eq.symm (a := t98 (σ 5) n (i + 1) (σ 6)) ((cI_t c66).trans ((cI_t c74).trans ((cI_t c82).trans ((cI_t c91).trans ((cI_t c100).trans ((cI_t c109).trans (cI_t c118))))))) : (v8 (σ 5) n (i + 1) (σ 6)) = (t98 (σ 5) n (i + 1) (σ 6)))))) (lv_eq (lv_sub hl [2, 1, 0] rfl) (lc_s (lc_s (lc_s rfl))))
                    · refine lv_iconst (v := 1) hx hb dX12_readsStatement_131 (by decide) ?_
                      refine lv_goto (tgt := 136) hx hb dX12_readsStatement_132 (by decide) ?_
                      refine x_topE (y := (bI ((c98 (σ 5) n (i + 1)).1))) (by exact (bI_t (by rw [show c98 (σ 5) n (i + 1) = _ from (cI_t c66).trans ((cI_t c74).trans ((cI_t c82).trans ((cI_t c91).trans ((cI_t c100).trans ((cI_t c109).trans (cI_t c118))))))]; exact c128)).symm) ?_
                      exact kJ62 _ _ _ (hH.eq ((congrArg (fun z_ : Nat → Int32 => WM G ad (ua (ua σ 0 z_) 6 (v8 (σ 5) n (i + 1) (σ 6)))) (by exact congrArg (fun z_ : Pg => upd (σ 0) 8 (nI z_.2)) (Eq.symm (a := c98 (σ 5) n (i + 1)) ((cI_t c66).trans ((cI_t c74).trans ((cI_t c82).trans ((cI_t c91).trans ((cI_t c100).trans ((cI_t c109).trans (cI_t c118)))))))) : (upd (σ 0) 8 (nI (u8 (σ 5) n (i + 1)).2)) = (upd (σ 0) 8 (nI (c98 (σ 5) n (i + 1)).2)))).trans (congrArg (fun z_ : Nat → Int32 => WM G ad (ua (ua σ 0 (upd (σ 0) 8 (nI (c98 (σ 5) n (i + 1)).2))) 6 z_)) (by exact Eq.symm (a := t98 (σ 5) n (i + 1) (σ 6)) ((cI_t c66).trans ((cI_t c74).trans ((cI_t c82).trans ((cI_t c91).trans ((cI_t c100).trans ((cI_t c109).trans (cI_t c118))))))) : (v8 (σ 5) n (i + 1) (σ 6)) = (t98 (σ 5) n (i + 1) (σ 6)))))) (lv_eq (lv_sub hl [2, 1, 0] rfl) (lc_s (lc_s (lc_s rfl))))
  · refine x_topE (y := 102) hf ?_
    refine lv_lookup (tgt := 140) hx hb dX12_readsStatement_18 (by decide) rfl (by decide) ?_
    refine x_meet1 (G := G) (A := A) (H0 := sS.heap) (nL := 3) (WM G ad (ua (ua σ 0 (upd (σ 0) 8 (nI (c102 (σ 5) n (i + 1)).2))) 6 (t102 (σ 5) n (i + 1) (σ 6)))) [(0, .ref (ad 0)), (1, .int (sgF (σ 5) n i)), (2, .int 0)] 172 [.int (bI ((c102 (σ 5) n (i + 1)).1))] ?_ ?_
    · intro H locs ls hH hl
      refine lv_istore_n (lv' := [(2, .int (bI ((c102 (σ 5) n (i + 1)).1))), (0, .ref (ad 0)), (1, .int (sgF (σ 5) n i))]) hx hb dX12_readsStatement_172 rfl hl (by decide) rfl (fun ls hl => ?_)
      refine lv_goto (tgt := 188) hx hb dX12_readsStatement_173 (by decide) ?_
      refine lv_iload_n hx hb dX12_readsStatement_188 rfl (lv_at hl 0 rfl) ?_
      refine x_beq (tgt := 205) hC dX12_readsStatement_189 (by decide) (fun c189 => ?_) (fun c189 => ?_)
      · refine lv_iconst (v := 0) hx hb dX12_readsStatement_205 (by decide) ?_
        exact x_zret hC hr hkL hH nar_bI (bI_f (by first | (rw [gS_d hd]; exact fun z => z) | (rw [gS_h hh, fin_t c189]; exact c198) | (rw [gS_b hbb, fin_t c189]; exact c198) | (rw [gS_f hf, fin_t c189]; exact c198) | (rw [gS_h hh, fin_f c189]; exact c189) | (rw [gS_b hbb, fin_f c189]; exact c189) | (rw [gS_f hf, fin_f c189]; exact c189))) ((congrArg (fun z_ : Nat → Int32 => WM G ad (ua (ua σ 0 z_) 6 (tS (σ 5) n i (σ 6)))) (by first | (rw [gS_d hd]; done) | (rw [gS_h hh, fin_t c189]; done) | (rw [gS_b hbb, fin_t c189]; done) | (rw [gS_f hf, fin_t c189]; done) | (rw [gS_h hh, fin_f c189]; done) | (rw [gS_b hbb, fin_f c189]; done) | (rw [gS_f hf, fin_f c189]; done) : (upd (σ 0) 8 (nI (gS (σ 5) n i).2)) = (upd (σ 0) 8 (nI (c102 (σ 5) n (i + 1)).2)))).trans (congrArg (fun z_ : Nat → Int32 => WM G ad (ua (ua σ 0 (upd (σ 0) 8 (nI (c102 (σ 5) n (i + 1)).2))) 6 z_)) (by first | (rw [tS_d hd]; done) | (rw [tS_h hh]; done) | (rw [tS_b hbb]; done) | (rw [tS_f hf]; done) : (tS (σ 5) n i (σ 6)) = (t102 (σ 5) n (i + 1) (σ 6))))) dX12_readsStatement_206
      · refine lv_aload_n hx hb dX12_readsStatement_192 rfl (lv_at hl 1 rfl) ?_
        refine lv_bipush (v := 59) hx hb dX12_readsStatement_193 (by decide) ?_
        refine x_callVA (ws' := WM G ad (ua (ua σ 0 (upd (σ 0) 8 (nI (gT (σ 5) n 59 ((c102 (σ 5) n (i + 1)).2)).2))) 6 (t102 (σ 5) n (i + 1) (σ 6)))) (As := [.int 59]) (rest := []) (st' := [.int (bI ((gT (σ 5) n 59 ((c102 (σ 5) n (i + 1)).2)).1))]) hC hK hZ hA hl.1 hH (k_X12_takes l G ad (ua (ua σ 0 (upd (σ 0) 8 (nI (c102 (σ 5) n (i + 1)).2))) 6 (t102 (σ 5) n (i + 1) (σ 6))) 59 n ((c102 (σ 5) n (i + 1)).2) hn hn80 rfl (by first | exact gN_le (sg_lt hh (by decide)) | exact c98_le (sg_lt hbb (by decide)) | exact c102_le (sg_lt hf (by decide)))) lk_X12_71 rfl 0 11 rfl rfl rfl ⟨Nat.le_of_ble_eq_true rfl, Nat.le_of_ble_eq_true rfl⟩ ⟨Nat.le_refl _, Nat.le_refl _⟩ (Nat.le_of_ble_eq_true rfl) rfl dX12_readsStatement_195 (fun H locs hH => ?_)
        refine x_beq (tgt := 205) hC dX12_readsStatement_198 (by decide) (fun c198 => ?_) (fun c198 => ?_)
        · refine lv_iconst (v := 0) hx hb dX12_readsStatement_205 (by decide) ?_
          exact x_zret hC hr hkL hH nar_bI (bI_f (by first | (rw [gS_d hd]; exact fun z => z) | (rw [gS_h hh, fin_t c189]; exact c198) | (rw [gS_b hbb, fin_t c189]; exact c198) | (rw [gS_f hf, fin_t c189]; exact c198) | (rw [gS_h hh, fin_f c189]; exact c189) | (rw [gS_b hbb, fin_f c189]; exact c189) | (rw [gS_f hf, fin_f c189]; exact c189))) ((congrArg (fun z_ : Nat → Int32 => WM G ad (ua (ua σ 0 z_) 6 (tS (σ 5) n i (σ 6)))) (by first | (rw [gS_d hd]; done) | (rw [gS_h hh, fin_t c189]; done) | (rw [gS_b hbb, fin_t c189]; done) | (rw [gS_f hf, fin_t c189]; done) | (rw [gS_h hh, fin_f c189]; done) | (rw [gS_b hbb, fin_f c189]; done) | (rw [gS_f hf, fin_f c189]; done) : (upd (σ 0) 8 (nI (gS (σ 5) n i).2)) = (upd (σ 0) 8 (nI (gT (σ 5) n 59 ((c102 (σ 5) n (i + 1)).2)).2)))).trans (congrArg (fun z_ : Nat → Int32 => WM G ad (ua (ua σ 0 (upd (σ 0) 8 (nI (gT (σ 5) n 59 ((c102 (σ 5) n (i + 1)).2)).2))) 6 z_)) (by first | (rw [tS_d hd]; done) | (rw [tS_h hh]; done) | (rw [tS_b hbb]; done) | (rw [tS_f hf]; done) : (tS (σ 5) n i (σ 6)) = (t102 (σ 5) n (i + 1) (σ 6))))) dX12_readsStatement_206
        · refine lv_iconst (v := 1) hx hb dX12_readsStatement_201 (by decide) ?_
          refine lv_goto (tgt := 206) hx hb dX12_readsStatement_202 (by decide) ?_
          exact x_zret hC hr hkL hH nar_bI (bI_t (by first | (rw [gS_h hh, fin_t c189]; exact c198) | (rw [gS_b hbb, fin_t c189]; exact c198) | (rw [gS_f hf, fin_t c189]; exact c198))) ((congrArg (fun z_ : Nat → Int32 => WM G ad (ua (ua σ 0 z_) 6 (tS (σ 5) n i (σ 6)))) (by first | (rw [gS_d hd]; done) | (rw [gS_h hh, fin_t c189]; done) | (rw [gS_b hbb, fin_t c189]; done) | (rw [gS_f hf, fin_t c189]; done) | (rw [gS_h hh, fin_f c189]; done) | (rw [gS_b hbb, fin_f c189]; done) | (rw [gS_f hf, fin_f c189]; done) : (upd (σ 0) 8 (nI (gS (σ 5) n i).2)) = (upd (σ 0) 8 (nI (gT (σ 5) n 59 ((c102 (σ 5) n (i + 1)).2)).2)))).trans (congrArg (fun z_ : Nat → Int32 => WM G ad (ua (ua σ 0 (upd (σ 0) 8 (nI (gT (σ 5) n 59 ((c102 (σ 5) n (i + 1)).2)).2))) 6 z_)) (by first | (rw [tS_d hd]; done) | (rw [tS_h hh]; done) | (rw [tS_b hbb]; done) | (rw [tS_f hf]; done) : (tS (σ 5) n i (σ 6)) = (t102 (σ 5) n (i + 1) (σ 6))))) dX12_readsStatement_206
    · intro kJ140
      refine lv_aload_n hx hb dX12_readsStatement_140 rfl (lv_at hl 2 rfl) ?_
      refine lv_iconst (v := 0) hx hb dX12_readsStatement_141 (by decide) ?_
      refine lv_iconst (v := 1) hx hb dX12_readsStatement_142 (by decide) ?_
      refine x_callVA (ws' := WM G ad (ua (ua σ 0 (upd (σ 0) 8 (nI (w1 (σ 5) n (i + 1)).2))) 6 (x1 (σ 5) n (i + 1) (σ 6)))) (As := [.int 0, .int 1]) (rest := []) (st' := [.int (bI ((w1 (σ 5) n (i + 1)).1))]) hC hK hZ hA hl.1 hH (k_X12_readsNumber l G ad (ua σ 0 (upd (σ 0) 8 (nI (i + 1)))) 0 1 n (i + 1) 0 1 hn hn80 rfl (sg_lt hf (by decide)) rfl (by decide) rfl (by decide)) lk_X12_60 rfl 0 11 rfl rfl rfl ⟨Nat.le_of_ble_eq_true rfl, Nat.le_of_ble_eq_true rfl⟩ ⟨Nat.le_refl _, Nat.le_refl _⟩ (Nat.le_of_ble_eq_true rfl) rfl dX12_readsStatement_143 (fun H locs hH => ?_)
      refine x_beq (tgt := 171) hC dX12_readsStatement_146 (by decide) (fun c146 => ?_) (fun c146 => ?_)
      · refine lv_iconst (v := 0) hx hb dX12_readsStatement_171 (by decide) ?_
        refine x_topE (y := (bI ((c102 (σ 5) n (i + 1)).1))) (by exact (bI_f (by rw [show c102 (σ 5) n (i + 1) = _ from cI_f c146]; exact c146)).symm) ?_
        exact kJ140 _ _ _ (hH.eq ((congrArg (fun z_ : Nat → Int32 => WM G ad (ua (ua σ 0 z_) 6 (x1 (σ 5) n (i + 1) (σ 6)))) (by exact congrArg (fun z_ : Pg => upd (σ 0) 8 (nI z_.2)) (Eq.symm (a := c102 (σ 5) n (i + 1)) (cI_f c146)) : (upd (σ 0) 8 (nI (w1 (σ 5) n (i + 1)).2)) = (upd (σ 0) 8 (nI (c102 (σ 5) n (i + 1)).2)))).trans (congrArg (fun z_ : Nat → Int32 => WM G ad (ua (ua σ 0 (upd (σ 0) 8 (nI (c102 (σ 5) n (i + 1)).2))) 6 z_)) (by exact Eq.symm (a := t102 (σ 5) n (i + 1) (σ 6)) (cI_f c146) : (x1 (σ 5) n (i + 1) (σ 6)) = (t102 (σ 5) n (i + 1) (σ 6)))))) (lv_eq (lv_sub hl [2, 1, 0] rfl) (lc_s (lc_s (lc_s rfl))))
      · refine lv_aload_n hx hb dX12_readsStatement_149 rfl (lv_at hl 2 rfl) ?_
        refine lv_bipush (v := 44) hx hb dX12_readsStatement_150 (by decide) ?_
        refine x_callVA (ws' := WM G ad (ua (ua σ 0 (upd (σ 0) 8 (nI (w2 (σ 5) n (i + 1)).2))) 6 (x1 (σ 5) n (i + 1) (σ 6)))) (As := [.int 44]) (rest := []) (st' := [.int (bI ((w2 (σ 5) n (i + 1)).1))]) hC hK hZ hA hl.1 hH (k_X12_takes l G ad (ua (ua σ 0 (upd (σ 0) 8 (nI (w1 (σ 5) n (i + 1)).2))) 6 (x1 (σ 5) n (i + 1) (σ 6))) 44 n ((w1 (σ 5) n (i + 1)).2) hn hn80 rfl (w1_le (sg_lt hf (by decide)))) lk_X12_71 rfl 0 11 rfl rfl rfl ⟨Nat.le_of_ble_eq_true rfl, Nat.le_of_ble_eq_true rfl⟩ ⟨Nat.le_refl _, Nat.le_refl _⟩ (Nat.le_of_ble_eq_true rfl) rfl dX12_readsStatement_152 (fun H locs hH => ?_)
        refine x_beq (tgt := 171) hC dX12_readsStatement_155 (by decide) (fun c155 => ?_) (fun c155 => ?_)
        · refine lv_iconst (v := 0) hx hb dX12_readsStatement_171 (by decide) ?_
          refine x_topE (y := (bI ((c102 (σ 5) n (i + 1)).1))) (by exact (bI_f (by rw [show c102 (σ 5) n (i + 1) = _ from (cI_t c146).trans (cI_f c155)]; exact c155)).symm) ?_
          exact kJ140 _ _ _ (hH.eq ((congrArg (fun z_ : Nat → Int32 => WM G ad (ua (ua σ 0 z_) 6 (x1 (σ 5) n (i + 1) (σ 6)))) (by exact congrArg (fun z_ : Pg => upd (σ 0) 8 (nI z_.2)) (Eq.symm (a := c102 (σ 5) n (i + 1)) ((cI_t c146).trans (cI_f c155))) : (upd (σ 0) 8 (nI (w2 (σ 5) n (i + 1)).2)) = (upd (σ 0) 8 (nI (c102 (σ 5) n (i + 1)).2)))).trans (congrArg (fun z_ : Nat → Int32 => WM G ad (ua (ua σ 0 (upd (σ 0) 8 (nI (c102 (σ 5) n (i + 1)).2))) 6 z_)) (by exact Eq.symm (a := t102 (σ 5) n (i + 1) (σ 6)) ((cI_t c146).trans (cI_f c155)) : (x1 (σ 5) n (i + 1) (σ 6)) = (t102 (σ 5) n (i + 1) (σ 6)))))) (lv_eq (lv_sub hl [2, 1, 0] rfl) (lc_s (lc_s (lc_s rfl))))
        · refine lv_aload_n hx hb dX12_readsStatement_158 rfl (lv_at hl 2 rfl) ?_
          refine lv_iconst (v := 1) hx hb dX12_readsStatement_159 (by decide) ?_
          refine lv_iconst (v := 2) hx hb dX12_readsStatement_160 (by decide) ?_
          refine x_callVA (ws' := WM G ad (ua (ua σ 0 (upd (σ 0) 8 (nI (w3 (σ 5) n (i + 1)).2))) 6 (x3 (σ 5) n (i + 1) (σ 6)))) (As := [.int 1, .int 2]) (rest := []) (st' := [.int (bI ((w3 (σ 5) n (i + 1)).1))]) hC hK hZ hA hl.1 hH (k_X12_readsNumber l G ad (ua (ua σ 0 (upd (σ 0) 8 (nI (w2 (σ 5) n (i + 1)).2))) 6 (x1 (σ 5) n (i + 1) (σ 6))) 1 2 n ((w2 (σ 5) n (i + 1)).2) 1 2 hn hn80 rfl (w2_le (sg_lt hf (by decide))) rfl (by decide) rfl (by decide)) lk_X12_60 rfl 0 11 rfl rfl rfl ⟨Nat.le_of_ble_eq_true rfl, Nat.le_of_ble_eq_true rfl⟩ ⟨Nat.le_refl _, Nat.le_refl _⟩ (Nat.le_of_ble_eq_true rfl) rfl dX12_readsStatement_161 (fun H locs hH => ?_)
          refine x_beq (tgt := 171) hC dX12_readsStatement_164 (by decide) (fun c164 => ?_) (fun c164 => ?_)
          · refine lv_iconst (v := 0) hx hb dX12_readsStatement_171 (by decide) ?_
            refine x_topE (y := (bI ((c102 (σ 5) n (i + 1)).1))) (by exact (bI_f (by rw [show c102 (σ 5) n (i + 1) = _ from (cI_t c146).trans (cI_t c155)]; exact c164)).symm) ?_
            exact kJ140 _ _ _ (hH.eq ((congrArg (fun z_ : Nat → Int32 => WM G ad (ua (ua σ 0 z_) 6 (x3 (σ 5) n (i + 1) (σ 6)))) (by exact congrArg (fun z_ : Pg => upd (σ 0) 8 (nI z_.2)) (Eq.symm (a := c102 (σ 5) n (i + 1)) ((cI_t c146).trans (cI_t c155))) : (upd (σ 0) 8 (nI (w3 (σ 5) n (i + 1)).2)) = (upd (σ 0) 8 (nI (c102 (σ 5) n (i + 1)).2)))).trans (congrArg (fun z_ : Nat → Int32 => WM G ad (ua (ua σ 0 (upd (σ 0) 8 (nI (c102 (σ 5) n (i + 1)).2))) 6 z_)) (by exact Eq.symm (a := t102 (σ 5) n (i + 1) (σ 6)) ((cI_t c146).trans (cI_t c155)) : (x3 (σ 5) n (i + 1) (σ 6)) = (t102 (σ 5) n (i + 1) (σ 6)))))) (lv_eq (lv_sub hl [2, 1, 0] rfl) (lc_s (lc_s (lc_s rfl))))
          · refine lv_iconst (v := 1) hx hb dX12_readsStatement_167 (by decide) ?_
            refine lv_goto (tgt := 172) hx hb dX12_readsStatement_168 (by decide) ?_
            refine x_topE (y := (bI ((c102 (σ 5) n (i + 1)).1))) (by exact (bI_t (by rw [show c102 (σ 5) n (i + 1) = _ from (cI_t c146).trans (cI_t c155)]; exact c164)).symm) ?_
            exact kJ140 _ _ _ (hH.eq ((congrArg (fun z_ : Nat → Int32 => WM G ad (ua (ua σ 0 z_) 6 (x3 (σ 5) n (i + 1) (σ 6)))) (by exact congrArg (fun z_ : Pg => upd (σ 0) 8 (nI z_.2)) (Eq.symm (a := c102 (σ 5) n (i + 1)) ((cI_t c146).trans (cI_t c155))) : (upd (σ 0) 8 (nI (w3 (σ 5) n (i + 1)).2)) = (upd (σ 0) 8 (nI (c102 (σ 5) n (i + 1)).2)))).trans (congrArg (fun z_ : Nat → Int32 => WM G ad (ua (ua σ 0 (upd (σ 0) 8 (nI (c102 (σ 5) n (i + 1)).2))) 6 z_)) (by exact Eq.symm (a := t102 (σ 5) n (i + 1) (σ 6)) ((cI_t c146).trans (cI_t c155)) : (x3 (σ 5) n (i + 1) (σ 6)) = (t102 (σ 5) n (i + 1) (σ 6)))))) (lv_eq (lv_sub hl [2, 1, 0] rfl) (lc_s (lc_s (lc_s rfl))))
  · refine x_topE (y := 104) hh ?_
    refine lv_lookup (tgt := 52) hx hb dX12_readsStatement_18 (by decide) rfl (by decide) ?_
    refine lv_aload_n hx hb dX12_readsStatement_52 rfl (lv_at hl 2 rfl) ?_
    refine lv_iconst (v := 0) hx hb dX12_readsStatement_53 (by decide) ?_
    refine lv_iconst (v := 2) hx hb dX12_readsStatement_54 (by decide) ?_
    refine x_callVA (ws' := WM G ad (ua (ua σ 0 (upd (σ 0) 8 (nI (gN (σ 5) n 2 (i + 1)).2))) 6 (tN (σ 5) n 0 2 (i + 1) (σ 6)))) (As := [.int 0, .int 2]) (rest := []) (st' := [.int (bI ((gN (σ 5) n 2 (i + 1)).1))]) hC hK hZ hA hl.1 hH (k_X12_readsNumber l G ad (ua σ 0 (upd (σ 0) 8 (nI (i + 1)))) 0 2 n (i + 1) 0 2 hn hn80 rfl (sg_lt hh (by decide)) rfl (by decide) rfl (by decide)) lk_X12_60 rfl 0 11 rfl rfl rfl ⟨Nat.le_of_ble_eq_true rfl, Nat.le_of_ble_eq_true rfl⟩ ⟨Nat.le_refl _, Nat.le_refl _⟩ (Nat.le_of_ble_eq_true rfl) rfl dX12_readsStatement_55 (fun H locs hH => ?_)
    refine lv_istore_n (lv' := [(2, .int (bI ((gN (σ 5) n 2 (i + 1)).1))), (1, .int (sgF (σ 5) n i)), (0, .ref (ad 0))]) hx hb dX12_readsStatement_58 rfl hl (by decide) rfl (fun ls hl => ?_)
    refine lv_goto (tgt := 188) hx hb dX12_readsStatement_59 (by decide) ?_
    refine lv_iload_n hx hb dX12_readsStatement_188 rfl (lv_at hl 0 rfl) ?_
    refine x_beq (tgt := 205) hC dX12_readsStatement_189 (by decide) (fun c189 => ?_) (fun c189 => ?_)
    · refine lv_iconst (v := 0) hx hb dX12_readsStatement_205 (by decide) ?_
      exact x_zret hC hr hkL hH nar_bI (bI_f (by first | (rw [gS_d hd]; exact fun z => z) | (rw [gS_h hh, fin_t c189]; exact c198) | (rw [gS_b hbb, fin_t c189]; exact c198) | (rw [gS_f hf, fin_t c189]; exact c198) | (rw [gS_h hh, fin_f c189]; exact c189) | (rw [gS_b hbb, fin_f c189]; exact c189) | (rw [gS_f hf, fin_f c189]; exact c189))) ((congrArg (fun z_ : Nat → Int32 => WM G ad (ua (ua σ 0 z_) 6 (tS (σ 5) n i (σ 6)))) (by first | (rw [gS_d hd]; done) | (rw [gS_h hh, fin_t c189]; done) | (rw [gS_b hbb, fin_t c189]; done) | (rw [gS_f hf, fin_t c189]; done) | (rw [gS_h hh, fin_f c189]; done) | (rw [gS_b hbb, fin_f c189]; done) | (rw [gS_f hf, fin_f c189]; done) : (upd (σ 0) 8 (nI (gS (σ 5) n i).2)) = (upd (σ 0) 8 (nI (gN (σ 5) n 2 (i + 1)).2)))).trans (congrArg (fun z_ : Nat → Int32 => WM G ad (ua (ua σ 0 (upd (σ 0) 8 (nI (gN (σ 5) n 2 (i + 1)).2))) 6 z_)) (by first | (rw [tS_d hd]; done) | (rw [tS_h hh]; done) | (rw [tS_b hbb]; done) | (rw [tS_f hf]; done) : (tS (σ 5) n i (σ 6)) = (tN (σ 5) n 0 2 (i + 1) (σ 6))))) dX12_readsStatement_206
    · refine lv_aload_n hx hb dX12_readsStatement_192 rfl (lv_at hl 2 rfl) ?_
      refine lv_bipush (v := 59) hx hb dX12_readsStatement_193 (by decide) ?_
      refine x_callVA (ws' := WM G ad (ua (ua σ 0 (upd (σ 0) 8 (nI (gT (σ 5) n 59 ((gN (σ 5) n 2 (i + 1)).2)).2))) 6 (tN (σ 5) n 0 2 (i + 1) (σ 6)))) (As := [.int 59]) (rest := []) (st' := [.int (bI ((gT (σ 5) n 59 ((gN (σ 5) n 2 (i + 1)).2)).1))]) hC hK hZ hA hl.1 hH (k_X12_takes l G ad (ua (ua σ 0 (upd (σ 0) 8 (nI (gN (σ 5) n 2 (i + 1)).2))) 6 (tN (σ 5) n 0 2 (i + 1) (σ 6))) 59 n ((gN (σ 5) n 2 (i + 1)).2) hn hn80 rfl (by first | exact gN_le (sg_lt hh (by decide)) | exact c98_le (sg_lt hbb (by decide)) | exact c102_le (sg_lt hf (by decide)))) lk_X12_71 rfl 0 11 rfl rfl rfl ⟨Nat.le_of_ble_eq_true rfl, Nat.le_of_ble_eq_true rfl⟩ ⟨Nat.le_refl _, Nat.le_refl _⟩ (Nat.le_of_ble_eq_true rfl) rfl dX12_readsStatement_195 (fun H locs hH => ?_)
      refine x_beq (tgt := 205) hC dX12_readsStatement_198 (by decide) (fun c198 => ?_) (fun c198 => ?_)
      · refine lv_iconst (v := 0) hx hb dX12_readsStatement_205 (by decide) ?_
        exact x_zret hC hr hkL hH nar_bI (bI_f (by first | (rw [gS_d hd]; exact fun z => z) | (rw [gS_h hh, fin_t c189]; exact c198) | (rw [gS_b hbb, fin_t c189]; exact c198) | (rw [gS_f hf, fin_t c189]; exact c198) | (rw [gS_h hh, fin_f c189]; exact c189) | (rw [gS_b hbb, fin_f c189]; exact c189) | (rw [gS_f hf, fin_f c189]; exact c189))) ((congrArg (fun z_ : Nat → Int32 => WM G ad (ua (ua σ 0 z_) 6 (tS (σ 5) n i (σ 6)))) (by first | (rw [gS_d hd]; done) | (rw [gS_h hh, fin_t c189]; done) | (rw [gS_b hbb, fin_t c189]; done) | (rw [gS_f hf, fin_t c189]; done) | (rw [gS_h hh, fin_f c189]; done) | (rw [gS_b hbb, fin_f c189]; done) | (rw [gS_f hf, fin_f c189]; done) : (upd (σ 0) 8 (nI (gS (σ 5) n i).2)) = (upd (σ 0) 8 (nI (gT (σ 5) n 59 ((gN (σ 5) n 2 (i + 1)).2)).2)))).trans (congrArg (fun z_ : Nat → Int32 => WM G ad (ua (ua σ 0 (upd (σ 0) 8 (nI (gT (σ 5) n 59 ((gN (σ 5) n 2 (i + 1)).2)).2))) 6 z_)) (by first | (rw [tS_d hd]; done) | (rw [tS_h hh]; done) | (rw [tS_b hbb]; done) | (rw [tS_f hf]; done) : (tS (σ 5) n i (σ 6)) = (tN (σ 5) n 0 2 (i + 1) (σ 6))))) dX12_readsStatement_206
      · refine lv_iconst (v := 1) hx hb dX12_readsStatement_201 (by decide) ?_
        refine lv_goto (tgt := 206) hx hb dX12_readsStatement_202 (by decide) ?_
        exact x_zret hC hr hkL hH nar_bI (bI_t (by first | (rw [gS_h hh, fin_t c189]; exact c198) | (rw [gS_b hbb, fin_t c189]; exact c198) | (rw [gS_f hf, fin_t c189]; exact c198))) ((congrArg (fun z_ : Nat → Int32 => WM G ad (ua (ua σ 0 z_) 6 (tS (σ 5) n i (σ 6)))) (by first | (rw [gS_d hd]; done) | (rw [gS_h hh, fin_t c189]; done) | (rw [gS_b hbb, fin_t c189]; done) | (rw [gS_f hf, fin_t c189]; done) | (rw [gS_h hh, fin_f c189]; done) | (rw [gS_b hbb, fin_f c189]; done) | (rw [gS_f hf, fin_f c189]; done) : (upd (σ 0) 8 (nI (gS (σ 5) n i).2)) = (upd (σ 0) 8 (nI (gT (σ 5) n 59 ((gN (σ 5) n 2 (i + 1)).2)).2)))).trans (congrArg (fun z_ : Nat → Int32 => WM G ad (ua (ua σ 0 (upd (σ 0) 8 (nI (gT (σ 5) n 59 ((gN (σ 5) n 2 (i + 1)).2)).2))) 6 z_)) (by first | (rw [tS_d hd]; done) | (rw [tS_h hh]; done) | (rw [tS_b hbb]; done) | (rw [tS_f hf]; done) : (tS (σ 5) n i (σ 6)) = (tN (σ 5) n 0 2 (i + 1) (σ 6))))) dX12_readsStatement_206
  · refine lv_lookup (off := 158) (tgt := 176) hx hb dX12_readsStatement_18 (by decide) (by show Op.lookupswitch.offset [(98, 44), (102, 122), (104, 34)] 158 _ = _; rw [lv_osw hd.1 (show Int32.toInt 98 = 98 from rfl), lv_osw hd.2.1 (show Int32.toInt 102 = 102 from rfl), lv_osw hd.2.2 (show Int32.toInt 104 = 104 from rfl)]; rfl) (by decide) ?_
    refine lv_aload_n hx hb dX12_readsStatement_176 rfl (lv_at hl 2 rfl) ?_
    refine lv_dup hx hb dX12_readsStatement_177 rfl ?_
    refine gf_X12_51 (v := .int (nI (i + 1))) hC hK hH 0 rfl rfl dX12_readsStatement_178 ?_
    refine lv_iconst (v := 1) hx hb dX12_readsStatement_181 (by decide) ?_
    refine lv_isub hx hb dX12_readsStatement_182 ?_
    refine x_topE (y := (nI i)) (nI_pred _) ?_
    refine pf_X12_51 (ws' := WM G ad (ua σ 0 (upd (σ 0) 8 (nI i)))) hC hK hH 0 rfl rfl rfl (Nat.le_of_ble_eq_true rfl) dX12_readsStatement_183 rfl (fun H locs hH => ?_)
    refine lv_iconst (v := 0) hx hb dX12_readsStatement_186 (by decide) ?_
    exact x_zret hC hr hkL hH nar_bI (bI_f (by first | (rw [gS_d hd]; exact fun z => z) | (rw [gS_h hh, fin_t c189]; exact c198) | (rw [gS_b hbb, fin_t c189]; exact c198) | (rw [gS_f hf, fin_t c189]; exact c198) | (rw [gS_h hh, fin_f c189]; exact c189) | (rw [gS_b hbb, fin_f c189]; exact c189) | (rw [gS_f hf, fin_f c189]; exact c189))) (((congrArg (fun z_ : Nat → Int32 => WM G ad (ua (ua σ 0 z_) 6 (tS (σ 5) n i (σ 6)))) (by first | (rw [gS_d hd]; done) | (rw [gS_h hh, fin_t c189]; done) | (rw [gS_b hbb, fin_t c189]; done) | (rw [gS_f hf, fin_t c189]; done) | (rw [gS_h hh, fin_f c189]; done) | (rw [gS_b hbb, fin_f c189]; done) | (rw [gS_f hf, fin_f c189]; done) : (upd (σ 0) 8 (nI (gS (σ 5) n i).2)) = (upd (σ 0) 8 (nI i)))).trans (congrArg (fun z_ : Nat → Int32 => WM G ad (ua (ua σ 0 (upd (σ 0) 8 (nI i))) 6 z_)) (by first | (rw [tS_d hd]; done) | (rw [tS_h hh]; done) | (rw [tS_b hbb]; done) | (rw [tS_f hf]; done) : (tS (σ 5) n i (σ 6)) = (σ 6)))).trans (show WM G ad (ua (ua σ 0 (upd (σ 0) 8 (nI i))) 6 (σ 6)) = WM G ad (ua σ 0 (upd (σ 0) 8 (nI i))) from rfl)) dX12_readsStatement_187
