/-! the reference: an INN comes -/
def mkP (h : Nat) (v : Int32) : Prop := (¬ 10 ≤ v ∧ v < nI h) ∨ (10 ≤ v ∧ v < 16)
theorem mkP_t1 {h : Nat} {v : Int32} (a : ¬ 10 ≤ v) (b : ¬ nI h ≤ v) : mkP h v := Or.inl ⟨a, Int32.not_le.mp b⟩
theorem mkP_t2 {h : Nat} {v : Int32} (a : 10 ≤ v) (b : ¬ 16 ≤ v) : mkP h v := Or.inr ⟨a, Int32.not_le.mp b⟩
theorem mkP_f1 {h : Nat} {v : Int32} (a : ¬ 10 ≤ v) (b : nI h ≤ v) : ¬ mkP h v := fun z => z.elim (fun q => absurd q.2 (Int32.not_lt.mpr b)) (fun q => a q.1)
theorem mkP_f2 {h : Nat} {v : Int32} (a : 10 ≤ v) (b : 16 ≤ v) : ¬ mkP h v := fun z => z.elim (fun q => q.1 a) (fun q => absurd q.2 (Int32.not_lt.mpr b))
def cbP (β : Bk) (T : Nat → Int32) : Prop := mkP (bH β) (T 1) ∧ mkP (bH β) (T 2) ∧ 0 < T 3 ∧ (0 ≤ T 5 ∧ T 5 < 4) ∧ (0 ≤ T 6 ∧ T 6 < 4) ∧ ¬ T 5 = T 6 ∧ bK β < 6
def cmP (β : Bk) (T : Nat → Int32) (c : Int32) : Prop := if c = 104 then ¬ T 0 < 1 ∧ ¬ bH β = 4 else if c = 98 then cbP β T else 0 ≤ T 0 ∧ T 0 < 4
def cpB (f : Nat → Int32) (o : Nat) (T : Nat → Int32) : Nat → Nat → Int32
  | 0 => f
  | i + 1 => upd (cpB f o T i) (o + i) (T i)
theorem cpB_lo {f : Nat → Int32} {o : Nat} {T : Nat → Int32} {j : Nat} (h : j < o) : ∀ i, cpB f o T i j = f j := by
  intro i
  induction i with
  | zero => rfl
  | succ i ih => rw [cpB, pk_un (by omega)]; exact ih
noncomputable def cmF (f : Nat → Int32) (β : Bk) (T : Nat → Int32) (c : Int32) : Nat → Int32 := cI (cmP β T c) (if c = 104 then upd (upd f (2 + bH β) (T 0)) 0 (nI (bH β + 1)) else if c = 98 then upd (cpB f (10 + 7 * bK β) T 7) 1 (nI (bK β + 1)) else upd f (6 + (T 0).toNatClampNeg) (T 1)) f
noncomputable def cmB (β : Bk) (T : Nat → Int32) (c : Int32) : Bk := if c = 104 then ((bH β + 1, bK β), upd (bC β) (bH β) (T 0), bN β, bF β) else if c = 98 then ((bH β, bK β + 1), bC β, cpB (bN β) (7 * bK β) T 7, bF β) else ((bH β, bK β), bC β, bN β, upd (bF β) (T 0).toNatClampNeg (T 1))
theorem cmP_h {β : Bk} {T : Nat → Int32} {c : Int32} (h : c = 104) : cmP β T c ↔ (¬ T 0 < 1 ∧ ¬ bH β = 4) := by rw [cmP, if_pos h]
theorem cmP_b {β : Bk} {T : Nat → Int32} {c : Int32} (h : c = 98) : cmP β T c ↔ cbP β T := by rw [cmP, if_neg (by rw [h]; decide), if_pos h]
theorem cmP_d {β : Bk} {T : Nat → Int32} {c : Int32} (h : ¬ c = 98 ∧ ¬ c = 104) : cmP β T c ↔ (0 ≤ T 0 ∧ T 0 < 4) := by rw [cmP, if_neg h.2, if_neg h.1]
theorem cmF_f {f : Nat → Int32} {β : Bk} {T : Nat → Int32} {c : Int32} (h : ¬ cmP β T c) : cmF f β T c = f := cI_f h
theorem cmF_h {f : Nat → Int32} {β : Bk} {T : Nat → Int32} {c : Int32} (h : cmP β T c) (hc : c = 104) : cmF f β T c = upd (upd f (2 + bH β) (T 0)) 0 (nI (bH β + 1)) := by rw [cmF, cI_t h, if_pos hc]
theorem cmF_b {f : Nat → Int32} {β : Bk} {T : Nat → Int32} {c : Int32} (h : cmP β T c) (hc : c = 98) : cmF f β T c = upd (cpB f (10 + 7 * bK β) T 7) 1 (nI (bK β + 1)) := by rw [cmF, cI_t h, if_neg (by rw [hc]; decide), if_pos hc]
theorem cmF_d {f : Nat → Int32} {β : Bk} {T : Nat → Int32} {c : Int32} (h : cmP β T c) (hc : ¬ c = 98 ∧ ¬ c = 104) : cmF f β T c = upd f (6 + (T 0).toNatClampNeg) (T 1) := by rw [cmF, cI_t h, if_neg hc.2, if_neg hc.1]
theorem cmB_h {β : Bk} {T : Nat → Int32} {c : Int32} (hc : c = 104) : cmB β T c = ((bH β + 1, bK β), upd (bC β) (bH β) (T 0), bN β, bF β) := if_pos hc
theorem cmB_b {β : Bk} {T : Nat → Int32} {c : Int32} (hc : c = 98) : cmB β T c = ((bH β, bK β + 1), bC β, cpB (bN β) (7 * bK β) T 7, bF β) := by rw [cmB, if_neg (by rw [hc]; decide), if_pos hc]
theorem cmB_d {β : Bk} {T : Nat → Int32} {c : Int32} (hc : ¬ c = 98 ∧ ¬ c = 104) : cmB β T c = ((bH β, bK β), bC β, bN β, upd (bF β) (T 0).toNatClampNeg (T 1)) := by rw [cmB, if_neg hc.2, if_neg hc.1]
theorem cpB_hi {f g : Nat → Int32} {o p : Nat} {T : Nat → Int32} {j : Nat} (h : f (o + j) = g (p + j)) : ∀ i, cpB f o T i (o + j) = cpB g p T i (p + j) := by
  intro i
  induction i with
  | zero => exact h
  | succ i ih =>
    rw [cpB, cpB]
    by_cases e : j = i
    · subst e; rw [pk_us, pk_us]
    · rw [pk_un (by omega), pk_un (by omega)]; exact ih
theorem cpB_mid {f g : Nat → Int32} {o p d : Nat} {T : Nat → Int32} (ho : o = d + p) {j : Nat} (h : f (d + j) = g j) : ∀ i, cpB f o T i (d + j) = cpB g p T i j := by
  intro i
  induction i with
  | zero => exact h
  | succ i ih =>
    rw [cpB, cpB]
    by_cases e : j = p + i
    · subst e; subst ho; rw [show d + (p + i) = d + p + i by omega, pk_us, pk_us]
    · rw [pk_un (by omega), pk_un e]; exact ih
theorem RB.come {f : Nat → Int32} {β : Bk} {T : Nat → Int32} {c : Int32} (h : RB f β) (hc : cmP β T c) : RB (cmF f β T c) (cmB β T c) := by
  obtain ⟨h1, h2, h3, h4, h5, h6, h7⟩ := h
  by_cases q1 : c = 104
  · have hp := (cmP_h q1).mp hc
    have hh : bH β < 4 := by have := hp.2; omega
    rw [cmF_h hc q1, cmB_h q1]
    refine ⟨pk_us, ?_, by show bH β + 1 ≤ 4; omega, h4, fun j hj => ?_, fun j hj => ?_, fun j hj => ?_⟩
    · rw [pk_un (by omega), pk_un (by omega)]; exact h2
    · rw [pk_un (by omega)]
      show upd f (2 + bH β) (T 0) (2 + j) = upd (bC β) (bH β) (T 0) j
      by_cases e : j = bH β
      · rw [e, pk_us, pk_us]
      · rw [pk_un (by omega), pk_un e]; exact h5 j hj
    · rw [pk_un (by omega), pk_un (by omega)]; exact h6 j hj
    · rw [pk_un (by omega), pk_un (by omega)]; exact h7 j hj
  · by_cases q2 : c = 98
    · have hp := (cmP_b q2).mp hc
      have hk : bK β < 6 := hp.2.2.2.2.2.2
      rw [cmF_b hc q2, cmB_b q2]
      refine ⟨?_, pk_us, h3, by show bK β + 1 ≤ 6; omega, fun j hj => ?_, fun j hj => ?_, fun j hj => ?_⟩
      · rw [pk_un (by omega), cpB_lo (by omega)]; exact h1
      · rw [pk_un (by omega), cpB_lo (by omega)]; exact h5 j hj
      · rw [pk_un (by omega), cpB_lo (by omega)]; exact h6 j hj
      · rw [pk_un (by omega)]; exact cpB_mid rfl (h7 j hj) 7
    · have hp := (cmP_d ⟨q2, q1⟩).mp hc
      obtain ⟨t, ht, et⟩ := inb_of (k := 4) (by omega) hp
      rw [cmF_d hc ⟨q2, q1⟩, cmB_d ⟨q2, q1⟩, et, nI_clamp (by omega)]
      refine ⟨?_, ?_, h3, h4, fun j hj => ?_, fun j hj => ?_, fun j hj => ?_⟩
      · rw [pk_un (by omega)]; exact h1
      · rw [pk_un (by omega)]; exact h2
      · rw [pk_un (by omega)]; exact h5 j hj
      · show upd f (6 + t) (T 1) (6 + j) = upd (bF β) t (T 1) j
        by_cases e : j = t
        · rw [e, pk_us, pk_us]
        · rw [pk_un (by omega), pk_un e]; exact h6 j hj
      · rw [pk_un (by omega)]; exact h7 j hj
theorem swC (x : Int32) : x = 98 ∨ x = 104 ∨ (¬ x = 98 ∧ ¬ x = 104) := by
  by_cases h1 : x = 98
  · exact Or.inl h1
  by_cases h2 : x = 104
  · exact Or.inr (Or.inl h2)
  · exact Or.inr (Or.inr ⟨h1, h2⟩)
theorem gN_ge {L : Nat → Int32} {n m i : Nat} : i ≤ (gN L n m i).2 := Nat.le_add_right _ _
theorem gT_ge {L : Nat → Int32} {n i : Nat} {c : Int32} : i ≤ (gT L n c i).2 := by
  by_cases q : sgF L n i = c
  · rw [gT_t q]; exact Nat.le_succ i
  · rw [gT_f q]; exact Nat.le_refl i
theorem gK_ge {L : Nat → Int32} {n i : Nat} : i ≤ (gK L n i).2 := by
  by_cases q : 0 ≤ kdF (sgF L n i)
  · rw [gK_t q]; exact Nat.le_succ i
  · rw [gK_f q]; exact Nat.le_refl i
theorem gM_ge {L : Nat → Int32} {n i : Nat} : i ≤ (gM L n i).2 := by
  by_cases q : sgF L n i = 98 ∨ sgF L n i = 104
  · rw [gM_t q]; exact Nat.le_trans (Nat.le_succ i) gN_ge
  · rw [gM_f q]; exact Nat.le_refl i
theorem u1_ge {L : Nat → Int32} {n i : Nat} : i ≤ (u1 L n i).2 := gK_ge
theorem u2_ge {L : Nat → Int32} {n i : Nat} : i ≤ (u2 L n i).2 := Nat.le_trans u1_ge gM_ge
theorem u3_ge {L : Nat → Int32} {n i : Nat} : i ≤ (u3 L n i).2 := Nat.le_trans u2_ge gM_ge
theorem u4_ge {L : Nat → Int32} {n i : Nat} : i ≤ (u4 L n i).2 := Nat.le_trans u3_ge gN_ge
theorem u5_ge {L : Nat → Int32} {n i : Nat} : i ≤ (u5 L n i).2 := Nat.le_trans u4_ge gT_ge
theorem u6_ge {L : Nat → Int32} {n i : Nat} : i ≤ (u6 L n i).2 := Nat.le_trans u5_ge gN_ge
theorem u7_ge {L : Nat → Int32} {n i : Nat} : i ≤ (u7 L n i).2 := Nat.le_trans u6_ge gN_ge
theorem u8_ge {L : Nat → Int32} {n i : Nat} : i ≤ (u8 L n i).2 := Nat.le_trans u7_ge gN_ge
theorem c98_ge {L : Nat → Int32} {n i : Nat} : i ≤ (c98 L n i).2 := h98_p (P := fun a => i ≤ a.2) u1_ge u2_ge u3_ge u4_ge u5_ge u6_ge u7_ge u8_ge
theorem c102_ge {L : Nat → Int32} {n i : Nat} : i ≤ (c102 L n i).2 := by
  have a1 : i ≤ (w1 L n i).2 := gN_ge
  have a2 : i ≤ (w2 L n i).2 := Nat.le_trans a1 gT_ge
  have a3 : i ≤ (w3 L n i).2 := Nat.le_trans a2 gN_ge
  unfold c102 h102
  by_cases q : (w1 L n i).1
  · rw [cI_t q]
    by_cases q2 : (w2 L n i).1
    · rw [cI_t q2]; exact a3
    · rw [cI_f q2]; exact a2
  · rw [cI_f q]; exact a1
theorem fin_ge {L : Nat → Int32} {n i : Nat} {a : Pg} (h : i ≤ a.2) : i ≤ (fin L n a).2 := by
  by_cases q : a.1
  · rw [fin_t q]; exact Nat.le_trans h gT_ge
  · rw [fin_f q]; exact h
theorem gS_gt {L : Nat → Int32} {n i : Nat} (h : (gS L n i).1) : i < (gS L n i).2 := by
  by_cases q1 : sgF L n i = 104
  · rw [gS_h q1]; exact fin_ge (i := i + 1) gN_ge
  by_cases q2 : sgF L n i = 98
  · rw [gS_b q2]; exact fin_ge (i := i + 1) c98_ge
  by_cases q3 : sgF L n i = 102
  · rw [gS_f q3]; exact fin_ge (i := i + 1) c102_ge
  · rw [gS_d ⟨q2, q3, q1⟩] at h; exact absurd h (fun z => z)
/-- the first reading: the place where it fails, or none; how many statements; what was read last -/
noncomputable def rd1 (L : Nat → Int32) (n : Nat) : Nat → Nat → Nat → (Nat → Int32) → Option Nat × Nat × (Nat → Int32)
  | 0, _, c, T => (none, c, T)
  | f + 1, i, c, T => cI (gS L n i).1 (if (gS L n i).2 < n then rd1 L n f (gS L n i).2 (c + 1) (tS L n i T) else (none, c + 1, tS L n i T)) (some (gS L n i).2, c, tS L n i T)
/-- the second: the place of the first statement that is not as it must be, or none; the row and what it tells -/
noncomputable def rd2 (L : Nat → Int32) (n : Nat) : Nat → Nat → (Nat → Int32) → (Nat → Int32) → Bk → Option Nat × (Nat → Int32) × Bk
  | 0, _, _, F, β => (none, F, β)
  | f + 1, i, T, F, β => if i < n then cI (cmP β (tS L n i T) (sgF L n i)) (rd2 L n f (gS L n i).2 (tS L n i T) (cmF F β (tS L n i T) (sgF L n i)) (cmB β (tS L n i T) (sgF L n i))) (some i, F, β) else (none, F, β)
noncomputable def rdR (L : Nat → Int32) (n : Nat) (T : Nat → Int32) (f : Nat → Int32) (β : Bk) : Int32 × (Nat → Int32) × Bk :=
  match (rd1 L n (n + 1) 0 0 T).1 with
  | some pl => (-1000 - nI pl, f, β)
  | none => match (rd2 L n (n + 1) 0 (rd1 L n (n + 1) 0 0 T).2.2 f β).1 with
    | some pl => (-2000 - nI pl, f, β)
    | none => (nI (rd1 L n (n + 1) 0 0 T).2.1, (rd2 L n (n + 1) 0 (rd1 L n (n + 1) 0 0 T).2.2 f β).2)
theorem rdR_1 {L : Nat → Int32} {n : Nat} {T f : Nat → Int32} {β : Bk} {pl : Nat} (h : (rd1 L n (n + 1) 0 0 T).1 = some pl) : rdR L n T f β = (-1000 - nI pl, f, β) := by
  unfold rdR; rw [h]
theorem rdR_2 {L : Nat → Int32} {n : Nat} {T f : Nat → Int32} {β : Bk} {pl : Nat} (h : (rd1 L n (n + 1) 0 0 T).1 = none) (h2 : (rd2 L n (n + 1) 0 (rd1 L n (n + 1) 0 0 T).2.2 f β).1 = some pl) : rdR L n T f β = (-2000 - nI pl, f, β) := by
  unfold rdR; rw [h]; simp only []; rw [h2]
theorem rdR_3 {L : Nat → Int32} {n : Nat} {T f : Nat → Int32} {β : Bk} (h : (rd1 L n (n + 1) 0 0 T).1 = none) (h2 : (rd2 L n (n + 1) 0 (rd1 L n (n + 1) 0 0 T).2.2 f β).1 = none) : rdR L n T f β = (nI (rd1 L n (n + 1) 0 0 T).2.1, (rd2 L n (n + 1) 0 (rd1 L n (n + 1) 0 0 T).2.2 f β).2) := by
  unfold rdR; rw [h]; simp only []; rw [h2]
/-- from place i on the text has no fault of the first kind -/
noncomputable def okP (L : Nat → Int32) (n : Nat) : Nat → Nat → Prop
  | 0, _ => False
  | f + 1, i => (gS L n i).1 ∧ ((gS L n i).2 < n → okP L n f (gS L n i).2)
theorem rd1_ok {L : Nat → Int32} {n : Nat} : ∀ (f i c : Nat) (T : Nat → Int32), n - i < f → (rd1 L n f i c T).1 = none → okP L n f i := by
  intro f
  induction f with
  | zero => intro i c T h; exact absurd h (Nat.not_lt_zero _)
  | succ f ih =>
    intro i c T h e
    by_cases q : (gS L n i).1
    · refine ⟨q, fun hl => ?_⟩
      rw [rd1, cI_t q, if_pos hl] at e
      by_cases z : n - (gS L n i).2 < f
      · exact ih _ _ _ z e
      · exact absurd (gS_gt q) (by omega)
    · rw [rd1, cI_f q] at e; cases e
theorem rd1_s {L : Nat → Int32} {n : Nat} (f i c : Nat) (T : Nat → Int32) : rd1 L n (f + 1) i c T = cI (gS L n i).1 (if (gS L n i).2 < n then rd1 L n f (gS L n i).2 (c + 1) (tS L n i T) else (none, c + 1, tS L n i T)) (some (gS L n i).2, c, tS L n i T) := rfl
theorem rd2_t {L : Nat → Int32} {n f i : Nat} {T F : Nat → Int32} {β : Bk} (h : i < n) (hc : cmP β (tS L n i T) (sgF L n i)) : rd2 L n (f + 1) i T F β = rd2 L n f (gS L n i).2 (tS L n i T) (cmF F β (tS L n i T) (sgF L n i)) (cmB β (tS L n i T) (sgF L n i)) := (if_pos h).trans (cI_t hc)
theorem rd2_f {L : Nat → Int32} {n f i : Nat} {T F : Nat → Int32} {β : Bk} (h : i < n) (hc : ¬ cmP β (tS L n i T) (sgF L n i)) : rd2 L n (f + 1) i T F β = (some i, F, β) := (if_pos h).trans (cI_f hc)
theorem rd2_e {L : Nat → Int32} {n i : Nat} {T F : Nat → Int32} {β : Bk} (h : ¬ i < n) : ∀ f, rd2 L n f i T F β = (none, F, β) := by
  intro f
  cases f with
  | zero => rfl
  | succ f => exact if_neg h
theorem rd2_RB {L : Nat → Int32} {n : Nat} : ∀ (f i : Nat) (T F : Nat → Int32) (β : Bk), RB F β → RB (rd2 L n f i T F β).2.1 (rd2 L n f i T F β).2.2 := by
  intro f
  induction f with
  | zero => intro i T F β h; exact h
  | succ f ih =>
    intro i T F β h
    by_cases q : i < n
    · by_cases hc : cmP β (tS L n i T) (sgF L n i)
      · rw [rd2_t q hc]; exact ih _ _ _ _ (h.come hc)
      · rw [rd2_f q hc]; exact h
    · rw [rd2_e q]; exact h
theorem rdR_RB {L : Nat → Int32} {n : Nat} {T f : Nat → Int32} {β : Bk} (h : RB f β) : RB (rdR L n T f β).2.1 (rdR L n T f β).2.2 := by
  cases e1 : (rd1 L n (n + 1) 0 0 T).1 with
  | some pl => rw [rdR_1 e1]; exact h
  | none =>
    cases e2 : (rd2 L n (n + 1) 0 (rd1 L n (n + 1) 0 0 T).2.2 f β).1 with
    | some pl => rw [rdR_2 e1 e2]; exact h
    | none => rw [rdR_3 e1 e2]; exact rd2_RB _ _ _ _ _ h
set_option maxHeartbeats 4000000 in
set_option maxRecDepth 100000 in
theorem k_X12_isMark (l : Launch) (G : GP) (ad : Nat → Nat) (σ : Nat → Nat → Int32) (v : Int32) (β : Bk) (hR : RB (σ 4) β) : CT l G yX12_isMark cX12_isMark 2 (some .boolean) 0 [.ref (ad 0), .int v] (WM G ad σ) (some (.int (bI (mkP (bH β) v)))) (WM G ad σ) := by
  refine x_meth "BetsOnBetsModel" rfl (by decide +kernel) (by rfl) (Nat.le_of_ble_eq_true rfl) ?_
  intro pP eE sS mM args below meth cC A ls hC hr hkL hK hZ hA hH hl
  have hx := hC.1
  have hb := hC.2.1
  have hl : lv_has ls 2 [(0, .ref (ad 0)), (1, .int v)] := hl
  refine lv_iload_n hx hb dX12_isMark_0 rfl (lv_at hl 1 rfl) ?_
  refine lv_bipush (v := 10) hx hb dX12_isMark_1 (by decide) ?_
  refine lv_icmp_ge (tgt := 24) hx hb dX12_isMark_3 (by decide) (fun c3 => ?_) (fun c3 => ?_)
  · refine lv_iload_n hx hb dX12_isMark_24 rfl (lv_at hl 1 rfl) ?_
    refine lv_bipush (v := 16) hx hb dX12_isMark_25 (by decide) ?_
    refine lv_icmp_ge (tgt := 34) hx hb dX12_isMark_27 (by decide) (fun c27 => ?_) (fun c27 => ?_)
    · refine lv_iconst (v := 0) hx hb dX12_isMark_34 (by decide) ?_
      exact x_zret hC hr hkL hH nar_bI (bI_f (by first | exact mkP_f1 c3 c13 | exact mkP_f2 c3 c27)) rfl dX12_isMark_35
    · refine lv_iconst (v := 1) hx hb dX12_isMark_30 (by decide) ?_
      refine lv_goto (tgt := 35) hx hb dX12_isMark_31 (by decide) ?_
      exact x_zret hC hr hkL hH nar_bI (bI_t (by first | exact mkP_t1 c3 c13 | exact mkP_t2 c3 c27)) rfl dX12_isMark_35
  · refine lv_iload_n hx hb dX12_isMark_6 rfl (lv_at hl 1 rfl) ?_
    refine lv_aload_n hx hb dX12_isMark_7 rfl (lv_at hl 0 rfl) ?_
    refine gf_X12_19 (v := .ref (ad 4)) hC hK hH 0 rfl rfl dX12_isMark_8 ?_
    refine lv_iconst (v := 0) hx hb dX12_isMark_11 (by decide) ?_
    refine x_ialN (f := (σ 4)) hC hK hH 4 0 rfl rfl (by decide) (Nat.le_of_ble_eq_true rfl) dX12_isMark_12 ?_
    refine x_topE (y := (nI (bH β))) (hR.1) ?_
    refine lv_icmp_ge (tgt := 20) hx hb dX12_isMark_13 (by decide) (fun c13 => ?_) (fun c13 => ?_)
    · refine lv_iconst (v := 0) hx hb dX12_isMark_20 (by decide) ?_
      refine lv_goto (tgt := 35) hx hb dX12_isMark_21 (by decide) ?_
      exact x_zret hC hr hkL hH nar_bI (bI_f (by first | exact mkP_f1 c3 c13 | exact mkP_f2 c3 c27)) rfl dX12_isMark_35
    · refine lv_iconst (v := 1) hx hb dX12_isMark_16 (by decide) ?_
      refine lv_goto (tgt := 35) hx hb dX12_isMark_17 (by decide) ?_
      exact x_zret hC hr hkL hH nar_bI (bI_t (by first | exact mkP_t1 c3 c13 | exact mkP_t2 c3 c27)) rfl dX12_isMark_35
set_option maxHeartbeats 4000000 in
set_option maxRecDepth 100000 in
theorem k_X12_comes (l : Launch) (G : GP) (ad : Nat → Nat) (σ : Nat → Nat → Int32) (c : Int32) (β : Bk) (hR : RB (σ 4) β) : CT l G yX12_comes cX12_comes 4 (some .boolean) 2 [.ref (ad 0), .int c] (WM G ad σ) (some (.int (bI (cmP β (σ 6) c)))) (WM G ad (ua σ 4 (cmF (σ 4) β (σ 6) c))) := by
  refine x_meth "BetsOnBetsModel" rfl (by decide +kernel) (by rfl) (Nat.le_of_ble_eq_true rfl) ?_
  intro pP eE sS mM args below meth cC A ls hC hr hkL hK hZ hA hH hl
  have hx := hC.1
  have hb := hC.2.1
  have hl : lv_has ls 4 [(0, .ref (ad 0)), (1, .int c)] := hl
  have hh4 := hR.2.2.1
  have hk6 := hR.2.2.2.1
  refine lv_iload_n hx hb dX12_comes_0 rfl (lv_at hl 1 rfl) ?_
  rcases swC c with hbb | hh | hd
  · refine x_topE (y := 98) hbb ?_
    refine lv_lookup (tgt := 81) hx hb dX12_comes_1 (by decide) rfl (by decide) ?_
    refine x_meet1 (G := G) (A := A) (H0 := sS.heap) (nL := 4) (WM G ad σ) [(0, .ref (ad 0)), (1, .int c)] 173 [.int (bI ((cbP β (σ 6))))] ?_ ?_
    · intro H locs ls hH hl
      refine lv_istore_n (lv' := [(2, .int (bI ((cbP β (σ 6))))), (0, .ref (ad 0)), (1, .int c)]) hx hb dX12_comes_173 rfl hl (by decide) rfl (fun ls hl => ?_)
      refine lv_iload_n hx hb dX12_comes_174 rfl (lv_at hl 0 rfl) ?_
      refine x_bne (tgt := 180) hC dX12_comes_175 (by decide) (fun c175 => ?_) (fun c175 => ?_)
      · have k6_ : bK β < 6 := c175.2.2.2.2.2.2
        refine lv_iconst (v := 0) hx hb dX12_comes_180 (by decide) ?_
        refine lv_istore_n (lv' := [(3, .int 0), (2, .int (bI ((cbP β (σ 6))))), (0, .ref (ad 0)), (1, .int c)]) hx hb dX12_comes_181 rfl hl (by decide) rfl (fun ls hl => ?_)
        refine x_loop (G := G) (A := A) (H0 := sS.heap) (nL := 4) (α := Nat) (fun q_ => 7 - q_) (fun q_ => q_ ≤ 7) (fun q_ => WM G ad (ua σ 4 (cpB (σ 4) (10 + 7 * bK β) (σ 6) q_))) (fun q_ => [(0, .ref (ad 0)), (1, .int c), (2, .int (bI ((cbP β (σ 6))))), (3, .int (nI q_))]) ?_ 0 (show 0 ≤ 7 from (Nat.zero_le _)) ?_ ?_
        · rintro j hi_j ih_j H locs ls hH hl
          replace hi_j : j ≤ 7 := hi_j
          replace hH : Hx G A (WM G ad (ua σ 4 (cpB (σ 4) (10 + 7 * bK β) (σ 6) j))) sS.heap H locs := hH
          replace hl : lv_has ls 4 [(0, .ref (ad 0)), (1, .int c), (2, .int (bI ((cbP β (σ 6))))), (3, .int (nI j))] := hl
          refine lv_iload_n hx hb dX12_comes_182 rfl (lv_at hl 3 rfl) ?_
          refine lv_bipush (v := 7) hx hb dX12_comes_183 (by decide) ?_
          refine lv_icmp_ge (tgt := 219) hx hb dX12_comes_185 (by decide) (fun c185 => ?_) (fun c185 => ?_)
          · have ge_j := lp_out (n := 7) rfl (by omega) (by omega) c185
            have eq_j : j = 7 := by omega
            subst eq_j
            refine lv_aload_n hx hb dX12_comes_219 rfl (lv_at hl 0 rfl) ?_
            refine gf_X12_19 (v := .ref (ad 4)) hC hK hH 0 rfl rfl dX12_comes_220 ?_
            refine lv_iconst (v := 1) hx hb dX12_comes_223 (by decide) ?_
            refine lv_dup2_11 hx hb dX12_comes_224 rfl rfl ?_
            refine x_ialN (f := (cpB (σ 4) (10 + 7 * bK β) (σ 6) 7)) hC hK hH 4 1 rfl rfl (by decide) (Nat.le_of_ble_eq_true rfl) dX12_comes_225 ?_
            refine x_topE (y := (nI (bK β))) (by rw [cpB_lo (by omega)]; exact hR.2.1) ?_
            refine lv_iconst (v := 1) hx hb dX12_comes_226 (by decide) ?_
            refine lv_iadd hx hb dX12_comes_227 ?_
            refine x_topE (y := (nI (bK β + 1))) (nI_1 _) ?_
            refine x_iasN (f := (cpB (σ 4) (10 + 7 * bK β) (σ 6) 7)) (ws' := WM G ad (ua σ 4 (upd (cpB (σ 4) (10 + 7 * bK β) (σ 6) 7) 1 (nI (bK β + 1))))) hC hK hH 4 1 rfl rfl (by decide) (Nat.le_of_ble_eq_true rfl) dX12_comes_228 rfl (fun H locs hH => ?_)
            refine lv_iconst (v := 1) hx hb dX12_comes_229 (by decide) ?_
            exact x_zret hC hr hkL hH nar_bI (bI_t (by exact (cmP_b hbb).mpr c175)) (congrArg (fun z_ : Nat → Int32 => WM G ad (ua σ 4 z_)) (by exact cmF_b ((cmP_b hbb).mpr c175) hbb : (cmF (σ 4) β (σ 6) c) = (upd (cpB (σ 4) (10 + 7 * bK β) (σ 6) 7) 1 (nI (bK β + 1))))) dX12_comes_230
          · have lt_j := lp_in (n := 7) rfl (by omega) (by omega) c185
            refine lv_aload_n hx hb dX12_comes_188 rfl (lv_at hl 0 rfl) ?_
            refine gf_X12_19 (v := .ref (ad 4)) hC hK hH 0 rfl rfl dX12_comes_189 ?_
            refine lv_bipush (v := 10) hx hb dX12_comes_192 (by decide) ?_
            refine lv_bipush (v := 7) hx hb dX12_comes_194 (by decide) ?_
            refine lv_aload_n hx hb dX12_comes_196 rfl (lv_at hl 0 rfl) ?_
            refine gf_X12_19 (v := .ref (ad 4)) hC hK hH 0 rfl rfl dX12_comes_197 ?_
            refine lv_iconst (v := 1) hx hb dX12_comes_200 (by decide) ?_
            refine x_ialN (f := (cpB (σ 4) (10 + 7 * bK β) (σ 6) j)) hC hK hH 4 1 rfl rfl (by decide) (Nat.le_of_ble_eq_true rfl) dX12_comes_201 ?_
            refine x_topE (y := (nI (bK β))) (by rw [cpB_lo (by omega)]; exact hR.2.1) ?_
            refine lv_imul hx hb dX12_comes_202 ?_
            refine lv_iadd hx hb dX12_comes_203 ?_
            refine lv_iload_n hx hb dX12_comes_204 rfl (lv_at hl 3 rfl) ?_
            refine lv_iadd hx hb dX12_comes_205 ?_
            refine lv_aload_n hx hb dX12_comes_206 rfl (lv_at hl 0 rfl) ?_
            refine gf_X12_25 (v := .ref (ad 6)) hC hK hH 0 rfl rfl dX12_comes_207 ?_
            refine lv_iload_n hx hb dX12_comes_210 rfl (lv_at hl 3 rfl) ?_
            refine x_ialN (f := (σ 6)) hC hK hH 6 j rfl rfl (by omega) (Nat.le_of_ble_eq_true rfl) dX12_comes_211 ?_
            refine x_iasN (f := (cpB (σ 4) (10 + 7 * bK β) (σ 6) j)) (ws' := WM G ad (ua σ 4 (upd (cpB (σ 4) (10 + 7 * bK β) (σ 6) j) ((10 + 7 * bK β) + j) ((σ 6) j)))) hC hK hH 4 ((10 + 7 * bK β) + j) rfl (by rw [nIa, nIa, nIm]; rfl) (by omega) (Nat.le_of_ble_eq_true rfl) dX12_comes_212 rfl (fun H locs hH => ?_)
            refine lv_iinc (v := ((nI j) + 1)) (lv' := [(3, .int ((nI j) + 1)), (0, .ref (ad 0)), (1, .int c), (2, .int (bI ((cbP β (σ 6)))))]) hx hb dX12_comes_213 hl (k := 3) rfl rfl (by decide) rfl (fun ls hl => ?_)
            refine lv_goto (tgt := 182) hx hb dX12_comes_216 (by decide) ?_
            exact ih_j (j + 1) (show (j + 1) ≤ 7 from (by omega)) (show 7 - (j + 1) < 7 - j from (by omega)) _ _ _ (hH.eq (congrArg (fun z_ : Nat → Int32 => WM G ad (ua σ 4 z_)) (by rfl : (upd (cpB (σ 4) (10 + 7 * bK β) (σ 6) j) ((10 + 7 * bK β) + j) ((σ 6) j)) = (cpB (σ 4) (10 + 7 * bK β) (σ 6) (j + 1))))) (lv_eq (lv_sub hl [1, 2, 3, 0] rfl) (lc_s (lc_s (lc_s (lc_i (by exact nI_1 _ : ((nI j) + 1) = (nI (j + 1))) rfl)))))
        · exact hH.eq (Eq.trans (show WM G ad σ = WM G ad (ua σ 4 (σ 4)) from rfl) (congrArg (fun z_ : Nat → Int32 => WM G ad (ua σ 4 z_)) (by rfl : (σ 4) = (cpB (σ 4) (10 + 7 * bK β) (σ 6) 0))))
        · exact lv_eq (lv_sub hl [2, 3, 1, 0] rfl) (lc_s (lc_s (lc_s (lc_i (by rfl : 0 = (nI 0)) rfl))))
      · refine lv_iconst (v := 0) hx hb dX12_comes_178 (by decide) ?_
        exact x_zret hC hr hkL hH nar_bI (bI_f (by exact (fun z => c175 ((cmP_b hbb).mp z)))) ((congrArg (fun z_ : Nat → Int32 => WM G ad (ua σ 4 z_)) (by exact cmF_f (fun z => c175 ((cmP_b hbb).mp z)) : (cmF (σ 4) β (σ 6) c) = (σ 4))).trans (show WM G ad (ua σ 4 (σ 4)) = WM G ad σ from rfl)) dX12_comes_179
    · intro kJ81
      refine lv_aload_n hx hb dX12_comes_81 rfl (lv_at hl 0 rfl) ?_
      refine lv_aload_n hx hb dX12_comes_82 rfl (lv_at hl 0 rfl) ?_
      refine gf_X12_25 (v := .ref (ad 6)) hC hK hH 0 rfl rfl dX12_comes_83 ?_
      refine lv_iconst (v := 1) hx hb dX12_comes_86 (by decide) ?_
      refine x_ialN (f := (σ 6)) hC hK hH 6 1 rfl rfl (by decide) (Nat.le_of_ble_eq_true rfl) dX12_comes_87 ?_
      refine x_callVA (ws' := WM G ad σ) (As := [.int ((σ 6) 1)]) (rest := []) (st' := [.int (bI (mkP (bH β) ((σ 6) 1)))]) hC hK hZ hA hl.1 hH (k_X12_isMark l G ad σ ((σ 6) 1) β hR) lk_X12_74 rfl 0 11 rfl rfl rfl ⟨Nat.le_of_ble_eq_true rfl, Nat.le_of_ble_eq_true rfl⟩ ⟨Nat.le_refl _, Nat.le_refl _⟩ (Nat.le_of_ble_eq_true rfl) rfl dX12_comes_88 (fun H locs hH => ?_)
      refine x_beq (tgt := 172) hC dX12_comes_91 (by decide) (fun c91 => ?_) (fun c91 => ?_)
      · refine lv_iconst (v := 0) hx hb dX12_comes_172 (by decide) ?_
        refine x_topE (y := (bI ((cbP β (σ 6))))) (by exact (bI_f (by first | exact (fun z => c91 z.1) | exact (fun z => c104 z.2.1) | exact (fun z => absurd z.2.2.1 (Int32.not_lt.mpr c113)) | exact (fun z => c125 z.2.2.2.1) | exact (fun z => c138 z.2.2.2.2.1) | exact (fun z => z.2.2.2.2.2.1 c154) | exact (fun z => absurd ((nI_leI (a := 6) (b := bK β) (by omega) (by omega)).mp c165) (by have := z.2.2.2.2.2.2; omega)))).symm) ?_
        exact kJ81 _ _ _ (hH.eq rfl) (lv_eq (lv_sub hl [0, 1] rfl) (lc_s (lc_s rfl)))
      · refine lv_aload_n hx hb dX12_comes_94 rfl (lv_at hl 0 rfl) ?_
        refine lv_aload_n hx hb dX12_comes_95 rfl (lv_at hl 0 rfl) ?_
        refine gf_X12_25 (v := .ref (ad 6)) hC hK hH 0 rfl rfl dX12_comes_96 ?_
        refine lv_iconst (v := 2) hx hb dX12_comes_99 (by decide) ?_
        refine x_ialN (f := (σ 6)) hC hK hH 6 2 rfl rfl (by decide) (Nat.le_of_ble_eq_true rfl) dX12_comes_100 ?_
        refine x_callVA (ws' := WM G ad σ) (As := [.int ((σ 6) 2)]) (rest := []) (st' := [.int (bI (mkP (bH β) ((σ 6) 2)))]) hC hK hZ hA hl.1 hH (k_X12_isMark l G ad σ ((σ 6) 2) β hR) lk_X12_74 rfl 0 11 rfl rfl rfl ⟨Nat.le_of_ble_eq_true rfl, Nat.le_of_ble_eq_true rfl⟩ ⟨Nat.le_refl _, Nat.le_refl _⟩ (Nat.le_of_ble_eq_true rfl) rfl dX12_comes_101 (fun H locs hH => ?_)
        refine x_beq (tgt := 172) hC dX12_comes_104 (by decide) (fun c104 => ?_) (fun c104 => ?_)
        · refine lv_iconst (v := 0) hx hb dX12_comes_172 (by decide) ?_
          refine x_topE (y := (bI ((cbP β (σ 6))))) (by exact (bI_f (by first | exact (fun z => c91 z.1) | exact (fun z => c104 z.2.1) | exact (fun z => absurd z.2.2.1 (Int32.not_lt.mpr c113)) | exact (fun z => c125 z.2.2.2.1) | exact (fun z => c138 z.2.2.2.2.1) | exact (fun z => z.2.2.2.2.2.1 c154) | exact (fun z => absurd ((nI_leI (a := 6) (b := bK β) (by omega) (by omega)).mp c165) (by have := z.2.2.2.2.2.2; omega)))).symm) ?_
          exact kJ81 _ _ _ (hH.eq rfl) (lv_eq (lv_sub hl [0, 1] rfl) (lc_s (lc_s rfl)))
        · refine lv_aload_n hx hb dX12_comes_107 rfl (lv_at hl 0 rfl) ?_
          refine gf_X12_25 (v := .ref (ad 6)) hC hK hH 0 rfl rfl dX12_comes_108 ?_
          refine lv_iconst (v := 3) hx hb dX12_comes_111 (by decide) ?_
          refine x_ialN (f := (σ 6)) hC hK hH 6 3 rfl rfl (by decide) (Nat.le_of_ble_eq_true rfl) dX12_comes_112 ?_
          refine lv_if_le (tgt := 172) hx hb dX12_comes_113 (by decide) (fun c113 => ?_) (fun c113 => ?_)
          · refine lv_iconst (v := 0) hx hb dX12_comes_172 (by decide) ?_
            refine x_topE (y := (bI ((cbP β (σ 6))))) (by exact (bI_f (by first | exact (fun z => c91 z.1) | exact (fun z => c104 z.2.1) | exact (fun z => absurd z.2.2.1 (Int32.not_lt.mpr c113)) | exact (fun z => c125 z.2.2.2.1) | exact (fun z => c138 z.2.2.2.2.1) | exact (fun z => z.2.2.2.2.2.1 c154) | exact (fun z => absurd ((nI_leI (a := 6) (b := bK β) (by omega) (by omega)).mp c165) (by have := z.2.2.2.2.2.2; omega)))).symm) ?_
            exact kJ81 _ _ _ (hH.eq rfl) (lv_eq (lv_sub hl [0, 1] rfl) (lc_s (lc_s rfl)))
          · refine lv_aload_n hx hb dX12_comes_116 rfl (lv_at hl 0 rfl) ?_
            refine gf_X12_25 (v := .ref (ad 6)) hC hK hH 0 rfl rfl dX12_comes_117 ?_
            refine lv_iconst (v := 5) hx hb dX12_comes_120 (by decide) ?_
            refine x_ialN (f := (σ 6)) hC hK hH 6 5 rfl rfl (by decide) (Nat.le_of_ble_eq_true rfl) dX12_comes_121 ?_
            refine x_callS (ws' := WM G ad σ) (As := [.int ((σ 6) 5)]) (rest := []) (st' := [.int (bI (0 ≤ ((σ 6) 5) ∧ ((σ 6) 5) < 4))]) hC hK hZ hA hl.1 hH (k_X12_isPerson l G (pk ad []) (pk σ []) ((σ 6) 5)) lk_X12_77 [] rfl rfl rfl rfl ⟨Nat.le_of_ble_eq_true rfl, Nat.le_of_ble_eq_true rfl⟩ ⟨Nat.le_refl _, Nat.le_refl _⟩ (Nat.le_of_ble_eq_true rfl) rfl dX12_comes_122 (fun H locs hH => ?_)
            refine x_beq (tgt := 172) hC dX12_comes_125 (by decide) (fun c125 => ?_) (fun c125 => ?_)
            · refine lv_iconst (v := 0) hx hb dX12_comes_172 (by decide) ?_
              refine x_topE (y := (bI ((cbP β (σ 6))))) (by exact (bI_f (by first | exact (fun z => c91 z.1) | exact (fun z => c104 z.2.1) | exact (fun z => absurd z.2.2.1 (Int32.not_lt.mpr c113)) | exact (fun z => c125 z.2.2.2.1) | exact (fun z => c138 z.2.2.2.2.1) | exact (fun z => z.2.2.2.2.2.1 c154) | exact (fun z => absurd ((nI_leI (a := 6) (b := bK β) (by omega) (by omega)).mp c165) (by have := z.2.2.2.2.2.2; omega)))).symm) ?_
              exact kJ81 _ _ _ (hH.eq rfl) (lv_eq (lv_sub hl [0, 1] rfl) (lc_s (lc_s rfl)))
            · refine lv_aload_n hx hb dX12_comes_128 rfl (lv_at hl 0 rfl) ?_
              refine gf_X12_25 (v := .ref (ad 6)) hC hK hH 0 rfl rfl dX12_comes_129 ?_
              refine lv_bipush (v := 6) hx hb dX12_comes_132 (by decide) ?_
              refine x_ialN (f := (σ 6)) hC hK hH 6 6 rfl rfl (by decide) (Nat.le_of_ble_eq_true rfl) dX12_comes_134 ?_
              refine x_callS (ws' := WM G ad σ) (As := [.int ((σ 6) 6)]) (rest := []) (st' := [.int (bI (0 ≤ ((σ 6) 6) ∧ ((σ 6) 6) < 4))]) hC hK hZ hA hl.1 hH (k_X12_isPerson l G (pk ad []) (pk σ []) ((σ 6) 6)) lk_X12_77 [] rfl rfl rfl rfl ⟨Nat.le_of_ble_eq_true rfl, Nat.le_of_ble_eq_true rfl⟩ ⟨Nat.le_refl _, Nat.le_refl _⟩ (Nat.le_of_ble_eq_true rfl) rfl dX12_comes_135 (fun H locs hH => ?_)
              refine x_beq (tgt := 172) hC dX12_comes_138 (by decide) (fun c138 => ?_) (fun c138 => ?_)
              · refine lv_iconst (v := 0) hx hb dX12_comes_172 (by decide) ?_
                refine x_topE (y := (bI ((cbP β (σ 6))))) (by exact (bI_f (by first | exact (fun z => c91 z.1) | exact (fun z => c104 z.2.1) | exact (fun z => absurd z.2.2.1 (Int32.not_lt.mpr c113)) | exact (fun z => c125 z.2.2.2.1) | exact (fun z => c138 z.2.2.2.2.1) | exact (fun z => z.2.2.2.2.2.1 c154) | exact (fun z => absurd ((nI_leI (a := 6) (b := bK β) (by omega) (by omega)).mp c165) (by have := z.2.2.2.2.2.2; omega)))).symm) ?_
                exact kJ81 _ _ _ (hH.eq rfl) (lv_eq (lv_sub hl [0, 1] rfl) (lc_s (lc_s rfl)))
              · refine lv_aload_n hx hb dX12_comes_141 rfl (lv_at hl 0 rfl) ?_
                refine gf_X12_25 (v := .ref (ad 6)) hC hK hH 0 rfl rfl dX12_comes_142 ?_
                refine lv_iconst (v := 5) hx hb dX12_comes_145 (by decide) ?_
                refine x_ialN (f := (σ 6)) hC hK hH 6 5 rfl rfl (by decide) (Nat.le_of_ble_eq_true rfl) dX12_comes_146 ?_
                refine lv_aload_n hx hb dX12_comes_147 rfl (lv_at hl 0 rfl) ?_
                refine gf_X12_25 (v := .ref (ad 6)) hC hK hH 0 rfl rfl dX12_comes_148 ?_
                refine lv_bipush (v := 6) hx hb dX12_comes_151 (by decide) ?_
                refine x_ialN (f := (σ 6)) hC hK hH 6 6 rfl rfl (by decide) (Nat.le_of_ble_eq_true rfl) dX12_comes_153 ?_
                refine lv_icmp_eq (tgt := 172) hx hb dX12_comes_154 (by decide) (fun c154 => ?_) (fun c154 => ?_)
                · refine lv_iconst (v := 0) hx hb dX12_comes_172 (by decide) ?_
                  refine x_topE (y := (bI ((cbP β (σ 6))))) (by exact (bI_f (by first | exact (fun z => c91 z.1) | exact (fun z => c104 z.2.1) | exact (fun z => absurd z.2.2.1 (Int32.not_lt.mpr c113)) | exact (fun z => c125 z.2.2.2.1) | exact (fun z => c138 z.2.2.2.2.1) | exact (fun z => z.2.2.2.2.2.1 c154) | exact (fun z => absurd ((nI_leI (a := 6) (b := bK β) (by omega) (by omega)).mp c165) (by have := z.2.2.2.2.2.2; omega)))).symm) ?_
                  exact kJ81 _ _ _ (hH.eq rfl) (lv_eq (lv_sub hl [0, 1] rfl) (lc_s (lc_s rfl)))
                · refine lv_aload_n hx hb dX12_comes_157 rfl (lv_at hl 0 rfl) ?_
                  refine gf_X12_19 (v := .ref (ad 4)) hC hK hH 0 rfl rfl dX12_comes_158 ?_
                  refine lv_iconst (v := 1) hx hb dX12_comes_161 (by decide) ?_
                  refine x_ialN (f := (σ 4)) hC hK hH 4 1 rfl rfl (by decide) (Nat.le_of_ble_eq_true rfl) dX12_comes_162 ?_
                  refine x_topE (y := (nI (bK β))) (hR.2.1) ?_
                  refine lv_bipush (v := 6) hx hb dX12_comes_163 (by decide) ?_
                  refine lv_icmp_ge (tgt := 172) hx hb dX12_comes_165 (by decide) (fun c165 => ?_) (fun c165 => ?_)
                  · refine lv_iconst (v := 0) hx hb dX12_comes_172 (by decide) ?_
                    refine x_topE (y := (bI ((cbP β (σ 6))))) (by exact (bI_f (by first | exact (fun z => c91 z.1) | exact (fun z => c104 z.2.1) | exact (fun z => absurd z.2.2.1 (Int32.not_lt.mpr c113)) | exact (fun z => c125 z.2.2.2.1) | exact (fun z => c138 z.2.2.2.2.1) | exact (fun z => z.2.2.2.2.2.1 c154) | exact (fun z => absurd ((nI_leI (a := 6) (b := bK β) (by omega) (by omega)).mp c165) (by have := z.2.2.2.2.2.2; omega)))).symm) ?_
                    exact kJ81 _ _ _ (hH.eq rfl) (lv_eq (lv_sub hl [0, 1] rfl) (lc_s (lc_s rfl)))
                  · refine lv_iconst (v := 1) hx hb dX12_comes_168 (by decide) ?_
                    refine lv_goto (tgt := 173) hx hb dX12_comes_169 (by decide) ?_
                    refine x_topE (y := (bI ((cbP β (σ 6))))) (by exact (bI_t (by exact ⟨c91, c104, Int32.not_le.mp c113, c125, c138, c154, (by have := (nI_leI (a := 6) (b := bK β) (by omega) (by omega)).mpr; by_cases q : bK β < 6; exact q; exact absurd (this (by omega)) c165)⟩)).symm) ?_
                    exact kJ81 _ _ _ (hH.eq rfl) (lv_eq (lv_sub hl [0, 1] rfl) (lc_s (lc_s rfl)))
  · refine x_topE (y := 104) hh ?_
    refine lv_lookup (tgt := 28) hx hb dX12_comes_1 (by decide) rfl (by decide) ?_
    refine lv_aload_n hx hb dX12_comes_28 rfl (lv_at hl 0 rfl) ?_
    refine gf_X12_25 (v := .ref (ad 6)) hC hK hH 0 rfl rfl dX12_comes_29 ?_
    refine lv_iconst (v := 0) hx hb dX12_comes_32 (by decide) ?_
    refine x_ialN (f := (σ 6)) hC hK hH 6 0 rfl rfl (by decide) (Nat.le_of_ble_eq_true rfl) dX12_comes_33 ?_
    refine lv_iconst (v := 1) hx hb dX12_comes_34 (by decide) ?_
    refine lv_icmp_lt (tgt := 48) hx hb dX12_comes_35 (by decide) (fun c35 => ?_) (fun c35 => ?_)
    · refine lv_iconst (v := 0) hx hb dX12_comes_48 (by decide) ?_
      exact x_zret hC hr hkL hH nar_bI (bI_f (by first | exact (fun z => ((cmP_h hh).mp z).1 c35) | exact (fun z => ((cmP_h hh).mp z).2 ((nI_eq (a := bH β) (b := 4) (by omega) (by omega)).mp c45)))) ((congrArg (fun z_ : Nat → Int32 => WM G ad (ua σ 4 z_)) (by first | exact cmF_f (fun z => ((cmP_h hh).mp z).1 c35) | exact cmF_f (fun z => ((cmP_h hh).mp z).2 ((nI_eq (a := bH β) (b := 4) (by omega) (by omega)).mp c45)) : (cmF (σ 4) β (σ 6) c) = (σ 4))).trans (show WM G ad (ua σ 4 (σ 4)) = WM G ad σ from rfl)) dX12_comes_49
    · refine lv_aload_n hx hb dX12_comes_38 rfl (lv_at hl 0 rfl) ?_
      refine gf_X12_19 (v := .ref (ad 4)) hC hK hH 0 rfl rfl dX12_comes_39 ?_
      refine lv_iconst (v := 0) hx hb dX12_comes_42 (by decide) ?_
      refine x_ialN (f := (σ 4)) hC hK hH 4 0 rfl rfl (by decide) (Nat.le_of_ble_eq_true rfl) dX12_comes_43 ?_
      refine x_topE (y := (nI (bH β))) (hR.1) ?_
      refine lv_iconst (v := 4) hx hb dX12_comes_44 (by decide) ?_
      refine lv_icmp_ne (tgt := 50) hx hb dX12_comes_45 (by decide) (fun c45 => ?_) (fun c45 => ?_)
      · have h4_ : ¬ bH β = 4 := fun z => c45 (by rw [z]; rfl)
        refine lv_aload_n hx hb dX12_comes_50 rfl (lv_at hl 0 rfl) ?_
        refine gf_X12_19 (v := .ref (ad 4)) hC hK hH 0 rfl rfl dX12_comes_51 ?_
        refine lv_iconst (v := 2) hx hb dX12_comes_54 (by decide) ?_
        refine lv_aload_n hx hb dX12_comes_55 rfl (lv_at hl 0 rfl) ?_
        refine gf_X12_19 (v := .ref (ad 4)) hC hK hH 0 rfl rfl dX12_comes_56 ?_
        refine lv_iconst (v := 0) hx hb dX12_comes_59 (by decide) ?_
        refine x_ialN (f := (σ 4)) hC hK hH 4 0 rfl rfl (by decide) (Nat.le_of_ble_eq_true rfl) dX12_comes_60 ?_
        refine x_topE (y := (nI (bH β))) (hR.1) ?_
        refine lv_iadd hx hb dX12_comes_61 ?_
        refine lv_aload_n hx hb dX12_comes_62 rfl (lv_at hl 0 rfl) ?_
        refine gf_X12_25 (v := .ref (ad 6)) hC hK hH 0 rfl rfl dX12_comes_63 ?_
        refine lv_iconst (v := 0) hx hb dX12_comes_66 (by decide) ?_
        refine x_ialN (f := (σ 6)) hC hK hH 6 0 rfl rfl (by decide) (Nat.le_of_ble_eq_true rfl) dX12_comes_67 ?_
        refine x_iasN (f := (σ 4)) (ws' := WM G ad (ua σ 4 (upd (σ 4) (2 + bH β) ((σ 6) 0)))) hC hK hH 4 (2 + bH β) rfl (by rw [nIa]; rfl) (by omega) (Nat.le_of_ble_eq_true rfl) dX12_comes_68 rfl (fun H locs hH => ?_)
        refine lv_aload_n hx hb dX12_comes_69 rfl (lv_at hl 0 rfl) ?_
        refine gf_X12_19 (v := .ref (ad 4)) hC hK hH 0 rfl rfl dX12_comes_70 ?_
        refine lv_iconst (v := 0) hx hb dX12_comes_73 (by decide) ?_
        refine lv_dup2_11 hx hb dX12_comes_74 rfl rfl ?_
        refine x_ialN (f := (upd (σ 4) (2 + bH β) ((σ 6) 0))) hC hK hH 4 0 rfl rfl (by decide) (Nat.le_of_ble_eq_true rfl) dX12_comes_75 ?_
        refine x_topE (y := (nI (bH β))) (by rw [pk_un (by omega)]; exact hR.1) ?_
        refine lv_iconst (v := 1) hx hb dX12_comes_76 (by decide) ?_
        refine lv_iadd hx hb dX12_comes_77 ?_
        refine x_topE (y := (nI (bH β + 1))) (nI_1 _) ?_
        refine x_iasN (f := (upd (σ 4) (2 + bH β) ((σ 6) 0))) (ws' := WM G ad (ua σ 4 (upd (upd (σ 4) (2 + bH β) ((σ 6) 0)) 0 (nI (bH β + 1))))) hC hK hH 4 0 rfl rfl (by decide) (Nat.le_of_ble_eq_true rfl) dX12_comes_78 rfl (fun H locs hH => ?_)
        refine lv_iconst (v := 1) hx hb dX12_comes_79 (by decide) ?_
        exact x_zret hC hr hkL hH nar_bI (bI_t (by exact (cmP_h hh).mpr ⟨c35, h4_⟩)) (congrArg (fun z_ : Nat → Int32 => WM G ad (ua σ 4 z_)) (by exact cmF_h ((cmP_h hh).mpr ⟨c35, h4_⟩) hh : (cmF (σ 4) β (σ 6) c) = (upd (upd (σ 4) (2 + bH β) ((σ 6) 0)) 0 (nI (bH β + 1))))) dX12_comes_80
      · refine lv_iconst (v := 0) hx hb dX12_comes_48 (by decide) ?_
        exact x_zret hC hr hkL hH nar_bI (bI_f (by first | exact (fun z => ((cmP_h hh).mp z).1 c35) | exact (fun z => ((cmP_h hh).mp z).2 ((nI_eq (a := bH β) (b := 4) (by omega) (by omega)).mp c45)))) ((congrArg (fun z_ : Nat → Int32 => WM G ad (ua σ 4 z_)) (by first | exact cmF_f (fun z => ((cmP_h hh).mp z).1 c35) | exact cmF_f (fun z => ((cmP_h hh).mp z).2 ((nI_eq (a := bH β) (b := 4) (by omega) (by omega)).mp c45)) : (cmF (σ 4) β (σ 6) c) = (σ 4))).trans (show WM G ad (ua σ 4 (σ 4)) = WM G ad σ from rfl)) dX12_comes_49
  · refine lv_lookup (off := 230) (tgt := 231) hx hb dX12_comes_1 (by decide) (by show Op.lookupswitch.offset [(98, 80), (104, 27)] 230 _ = _; rw [lv_osw hd.1 (show Int32.toInt 98 = 98 from rfl), lv_osw hd.2 (show Int32.toInt 104 = 104 from rfl)]; rfl) (by decide) ?_
    refine lv_aload_n hx hb dX12_comes_231 rfl (lv_at hl 0 rfl) ?_
    refine gf_X12_25 (v := .ref (ad 6)) hC hK hH 0 rfl rfl dX12_comes_232 ?_
    refine lv_iconst (v := 0) hx hb dX12_comes_235 (by decide) ?_
    refine x_ialN (f := (σ 6)) hC hK hH 6 0 rfl rfl (by decide) (Nat.le_of_ble_eq_true rfl) dX12_comes_236 ?_
    refine x_callS (ws' := WM G ad σ) (As := [.int ((σ 6) 0)]) (rest := []) (st' := [.int (bI (0 ≤ ((σ 6) 0) ∧ ((σ 6) 0) < 4))]) hC hK hZ hA hl.1 hH (k_X12_isPerson l G (pk ad []) (pk σ []) ((σ 6) 0)) lk_X12_77 [] rfl rfl rfl rfl ⟨Nat.le_of_ble_eq_true rfl, Nat.le_of_ble_eq_true rfl⟩ ⟨Nat.le_refl _, Nat.le_refl _⟩ (Nat.le_of_ble_eq_true rfl) rfl dX12_comes_237 (fun H locs hH => ?_)
    refine x_bne (tgt := 245) hC dX12_comes_240 (by decide) (fun c240 => ?_) (fun c240 => ?_)
    · obtain ⟨t_, ht_, et_⟩ := inb_of (k := 4) (by omega) c240
      have nt_ : ((σ 6) 0).toNatClampNeg = t_ := by rw [et_]; exact nI_clamp (by omega)
      refine lv_aload_n hx hb dX12_comes_245 rfl (lv_at hl 0 rfl) ?_
      refine gf_X12_19 (v := .ref (ad 4)) hC hK hH 0 rfl rfl dX12_comes_246 ?_
      refine lv_bipush (v := 6) hx hb dX12_comes_249 (by decide) ?_
      refine lv_aload_n hx hb dX12_comes_251 rfl (lv_at hl 0 rfl) ?_
      refine gf_X12_25 (v := .ref (ad 6)) hC hK hH 0 rfl rfl dX12_comes_252 ?_
      refine lv_iconst (v := 0) hx hb dX12_comes_255 (by decide) ?_
      refine x_ialN (f := (σ 6)) hC hK hH 6 0 rfl rfl (by decide) (Nat.le_of_ble_eq_true rfl) dX12_comes_256 ?_
      refine lv_iadd hx hb dX12_comes_257 ?_
      refine lv_aload_n hx hb dX12_comes_258 rfl (lv_at hl 0 rfl) ?_
      refine gf_X12_25 (v := .ref (ad 6)) hC hK hH 0 rfl rfl dX12_comes_259 ?_
      refine lv_iconst (v := 1) hx hb dX12_comes_262 (by decide) ?_
      refine x_ialN (f := (σ 6)) hC hK hH 6 1 rfl rfl (by decide) (Nat.le_of_ble_eq_true rfl) dX12_comes_263 ?_
      refine x_iasN (f := (σ 4)) (ws' := WM G ad (ua σ 4 (upd (σ 4) (6 + t_) ((σ 6) 1)))) hC hK hH 4 (6 + t_) rfl (by rw [et_, nIa]; rfl) (by omega) (Nat.le_of_ble_eq_true rfl) dX12_comes_264 rfl (fun H locs hH => ?_)
      refine lv_iconst (v := 1) hx hb dX12_comes_265 (by decide) ?_
      exact x_zret hC hr hkL hH nar_bI (bI_t (by exact (cmP_d hd).mpr c240)) (congrArg (fun z_ : Nat → Int32 => WM G ad (ua σ 4 z_)) (by rw [cmF_d ((cmP_d hd).mpr c240) hd, nt_] : (cmF (σ 4) β (σ 6) c) = (upd (σ 4) (6 + t_) ((σ 6) 1)))) dX12_comes_266
    · refine lv_iconst (v := 0) hx hb dX12_comes_243 (by decide) ?_
      exact x_zret hC hr hkL hH nar_bI (bI_f (by exact (fun z => c240 ((cmP_d hd).mp z)))) ((congrArg (fun z_ : Nat → Int32 => WM G ad (ua σ 4 z_)) (by exact cmF_f (fun z => c240 ((cmP_d hd).mp z)) : (cmF (σ 4) β (σ 6) c) = (σ 4))).trans (show WM G ad (ua σ 4 (σ 4)) = WM G ad σ from rfl)) dX12_comes_244
set_option maxHeartbeats 4000000 in
set_option maxRecDepth 100000 in
theorem k_X12_reads (l : Launch) (G : GP) (ad : Nat → Nat) (σ : Nat → Nat → Int32) (n : Nat) (β : Bk) (hn : (σ 0 7) = nI n) (hn80 : n ≤ 80) (hR : RB (σ 2) β) : CTE l G yX12_reads cX12_reads 5 (some .int) 4 [.ref (ad 0)] (WM G ad σ) (some (.int ((rdR (σ 5) n (σ 6) (σ 2) β).1))) (fun z => WM G ad (ua (ua (ua (ua σ 0 (upd (σ 0) 8 (z 0 8))) 2 ((rdR (σ 5) n (σ 6) (σ 2) β).2.1)) 4 (z 4)) 6 (z 6))) := by
  refine x_methE "BetsOnBetsModel" rfl (by decide +kernel) (fun z => by rfl) (Nat.le_of_ble_eq_true rfl) ?_
  intro pP eE sS mM args below meth cC A ls hC hr hkL hK hZ hA hH hl
  have hx := hC.1
  have hb := hC.2.1
  have hl : lv_has ls 5 [(0, .ref (ad 0))] := hl
  refine lv_aload_n hx hb dX12_reads_0 rfl (lv_at hl 0 rfl) ?_
  refine lv_iconst (v := 0) hx hb dX12_reads_1 (by decide) ?_
  refine pf_X12_51 (ws' := WM G ad (ua σ 0 (upd (σ 0) 8 0))) hC hK hH 0 rfl rfl rfl (Nat.le_of_ble_eq_true rfl) dX12_reads_2 rfl (fun H locs hH => ?_)
  refine lv_iconst (v := 0) hx hb dX12_reads_5 (by decide) ?_
  refine lv_istore_n (lv' := [(1, .int 0), (0, .ref (ad 0))]) hx hb dX12_reads_6 rfl hl (by decide) rfl (fun ls hl => ?_)
  refine x_loop (G := G) (A := A) (H0 := sS.heap) (nL := 5) (α := Nat × Nat × Nat × (Nat → Int32)) (fun q_ => q_.1) (fun q_ => q_.2.1 ≤ n ∧ n - q_.2.1 < q_.1 ∧ rd1 (σ 5) n q_.1 q_.2.1 q_.2.2.1 q_.2.2.2 = (rd1 (σ 5) n (n + 1) 0 0 (σ 6))) (fun q_ => WM G ad (ua (ua σ 0 (upd (σ 0) 8 (nI q_.2.1))) 6 q_.2.2.2)) (fun q_ => [(0, .ref (ad 0)), (1, .int (nI q_.2.2.1))]) ?_ ((n + 1), 0, 0, (σ 6)) (show 0 ≤ n ∧ n - 0 < (n + 1) ∧ rd1 (σ 5) n (n + 1) 0 0 (σ 6) = (rd1 (σ 5) n (n + 1) 0 0 (σ 6)) from ⟨by omega, by omega, rfl⟩) ?_ ?_
  · rintro ⟨f, i, c, T⟩ hi_f ih_f H locs ls hH hl
    replace hi_f : i ≤ n ∧ n - i < f ∧ rd1 (σ 5) n f i c T = (rd1 (σ 5) n (n + 1) 0 0 (σ 6)) := hi_f
    replace hH : Hx G A (WM G ad (ua (ua σ 0 (upd (σ 0) 8 (nI i))) 6 T)) sS.heap H locs := hH
    replace hl : lv_has ls 5 [(0, .ref (ad 0)), (1, .int (nI c))] := hl
    refine lv_aload_n hx hb dX12_reads_7 rfl (lv_at hl 0 rfl) ?_
    refine x_callVA (ws' := WM G ad (ua (ua σ 0 (upd (σ 0) 8 (nI (gS (σ 5) n i).2))) 6 (tS (σ 5) n i T))) (As := []) (rest := []) (st' := [.int (bI ((gS (σ 5) n i).1))]) hC hK hZ hA hl.1 hH (k_X12_readsStatement l G ad (ua (ua σ 0 (upd (σ 0) 8 (nI i))) 6 T) n i hn hn80 rfl hi_f.1) lk_X12_80 rfl 0 11 rfl rfl rfl ⟨Nat.le_of_ble_eq_true rfl, Nat.le_of_ble_eq_true rfl⟩ ⟨Nat.le_refl _, Nat.le_refl _⟩ (Nat.le_of_ble_eq_true rfl) rfl dX12_reads_8 (fun H locs hH => ?_)
    obtain ⟨f1_, ef1_⟩ : ∃ f1_, f = f1_ + 1 := ⟨f - 1, by have := hi_f.2.1; omega⟩
    have st_ := (rd1_s (L := (σ 5)) (n := n) f1_ i c T).symm.trans (ef1_ ▸ hi_f.2.2)
    have gle_ := gS_le (L := (σ 5)) hi_f.1
    refine x_bne (tgt := 23) hC dX12_reads_11 (by decide) (fun c11 => ?_) (fun c11 => ?_)
    · refine lv_iinc (v := ((nI c) + 1)) (lv' := [(1, .int ((nI c) + 1)), (0, .ref (ad 0))]) hx hb dX12_reads_23 hl (k := 1) rfl rfl (by decide) rfl (fun ls hl => ?_)
      refine lv_aload_n hx hb dX12_reads_26 rfl (lv_at hl 1 rfl) ?_
      refine gf_X12_51 (v := .int (nI (gS (σ 5) n i).2)) hC hK hH 0 rfl rfl dX12_reads_27 ?_
      refine lv_aload_n hx hb dX12_reads_30 rfl (lv_at hl 1 rfl) ?_
      refine gf_X12_43 (v := .int (σ 0 7)) hC hK hH 0 rfl rfl dX12_reads_31 ?_
      refine x_topE (y := (nI n)) hn ?_
      refine lv_icmp_lt (tgt := 7) hx hb dX12_reads_34 (by decide) (fun c34 => ?_) (fun c34 => ?_)
      · have lt2_ : (gS (σ 5) n i).2 < n := (nI_ltI (by omega) (by omega)).mp c34
        exact ih_f (f1_, (gS (σ 5) n i).2, (c + 1), (tS (σ 5) n i T)) (show ((gS (σ 5) n i).2) ≤ n ∧ n - ((gS (σ 5) n i).2) < f1_ ∧ rd1 (σ 5) n f1_ ((gS (σ 5) n i).2) (c + 1) (tS (σ 5) n i T) = (rd1 (σ 5) n (n + 1) 0 0 (σ 6)) from ⟨gle_, by have := gS_gt c11; have := hi_f.2.1; omega, by rw [← st_, cI_t c11, if_pos lt2_]⟩) (show f1_ < f from (by omega)) _ _ _ (hH.eq (congrArg (fun z_ : Nat → Int32 => WM G ad (ua (ua σ 0 z_) 6 (tS (σ 5) n i T))) (by rfl : (upd (σ 0) 8 (nI (gS (σ 5) n i).2)) = (upd (σ 0) 8 (nI ((gS (σ 5) n i).2)))))) (lv_eq (lv_sub hl [1, 0] rfl) (lc_s (lc_i (by exact nI_1 _ : ((nI c) + 1) = (nI (c + 1))) rfl)))
      · have lt2_ : ¬ (gS (σ 5) n i).2 < n := fun z => c34 ((nI_ltI (by omega) (by omega)).mpr z)
        have r1_ : (rd1 (σ 5) n (n + 1) 0 0 (σ 6)) = (none, c + 1, tS (σ 5) n i T) := by rw [← st_, cI_t c11, if_neg lt2_]
        refine lv_aload_n hx hb dX12_reads_37 rfl (lv_at hl 1 rfl) ?_
        refine gf_X12_13 (v := .ref (ad 2)) hC hK hH 0 rfl rfl dX12_reads_38 ?_
        refine lv_aload_n hx hb dX12_reads_41 rfl (lv_at hl 1 rfl) ?_
        refine gf_X12_19 (v := .ref (ad 4)) hC hK hH 0 rfl rfl dX12_reads_42 ?_
        refine x_callS (ws' := WM G ad (ua (ua (ua σ 0 (upd (σ 0) 8 (nI (gS (σ 5) n i).2))) 4 (σ 2)) 6 (tS (σ 5) n i T))) (As := [.ref (ad 2), .ref (ad 4)]) (rest := []) (st' := []) hC hK hZ hA hl.1 hH (k_X12_copies l G (pk ad [2, 4]) (pk (ua (ua σ 0 (upd (σ 0) 8 (nI (gS (σ 5) n i).2))) 6 (tS (σ 5) n i T)) [2, 4])) lk_X12_83 [2, 4] rfl rfl rfl rfl ⟨Nat.le_of_ble_eq_true rfl, Nat.le_of_ble_eq_true rfl⟩ ⟨Nat.le_refl _, Nat.le_refl _⟩ (Nat.le_of_ble_eq_true rfl) rfl dX12_reads_45 (fun H locs hH => ?_)
        refine lv_aload_n hx hb dX12_reads_48 rfl (lv_at hl 1 rfl) ?_
        refine lv_iconst (v := 0) hx hb dX12_reads_49 (by decide) ?_
        refine pf_X12_51 (ws' := WM G ad (ua (ua (ua σ 0 (upd (σ 0) 8 0)) 4 (σ 2)) 6 (tS (σ 5) n i T))) hC hK hH 0 rfl rfl rfl (Nat.le_of_ble_eq_true rfl) dX12_reads_50 rfl (fun H locs hH => ?_)
        refine x_loop (G := G) (A := A) (H0 := sS.heap) (nL := 5) (α := Nat × Nat × (Nat → Int32) × (Nat → Int32) × Bk) (fun q_ => q_.2.1) (fun q_ => q_.1 ≤ n ∧ n - q_.1 < q_.2.1 ∧ RB q_.2.2.2.1 q_.2.2.2.2 ∧ (q_.1 < n → okP (σ 5) n q_.2.1 q_.1) ∧ rd2 (σ 5) n q_.2.1 q_.1 q_.2.2.1 q_.2.2.2.1 q_.2.2.2.2 = (rd2 (σ 5) n (n + 1) 0 (rd1 (σ 5) n (n + 1) 0 0 (σ 6)).2.2 (σ 2) β)) (fun q_ => WM G ad (ua (ua (ua σ 0 (upd (σ 0) 8 (nI q_.1))) 4 q_.2.2.2.1) 6 q_.2.2.1)) (fun q_ => [(0, .ref (ad 0)), (1, .int ((nI c) + 1))]) ?_ (0, (n + 1), (tS (σ 5) n i T), (σ 2), β) (show 0 ≤ n ∧ n - 0 < (n + 1) ∧ RB (σ 2) β ∧ (0 < n → okP (σ 5) n (n + 1) 0) ∧ rd2 (σ 5) n (n + 1) 0 (tS (σ 5) n i T) (σ 2) β = (rd2 (σ 5) n (n + 1) 0 (rd1 (σ 5) n (n + 1) 0 0 (σ 6)).2.2 (σ 2) β) from ⟨by omega, by omega, hR, fun _ => rd1_ok (n + 1) 0 0 (σ 6) (by omega) (by rw [r1_]), by rw [r1_]⟩) ?_ ?_
        · rintro ⟨i2, g, T2, F2, β2⟩ hi_i2 ih_i2 H locs ls hH hl
          replace hi_i2 : i2 ≤ n ∧ n - i2 < g ∧ RB F2 β2 ∧ (i2 < n → okP (σ 5) n g i2) ∧ rd2 (σ 5) n g i2 T2 F2 β2 = (rd2 (σ 5) n (n + 1) 0 (rd1 (σ 5) n (n + 1) 0 0 (σ 6)).2.2 (σ 2) β) := hi_i2
          replace hH : Hx G A (WM G ad (ua (ua (ua σ 0 (upd (σ 0) 8 (nI i2))) 4 F2) 6 T2)) sS.heap H locs := hH
          replace hl : lv_has ls 5 [(0, .ref (ad 0)), (1, .int ((nI c) + 1))] := hl
          have hi_i2a := hi_i2.1
          refine lv_aload_n hx hb dX12_reads_53 rfl (lv_at hl 0 rfl) ?_
          refine gf_X12_51 (v := .int (nI i2)) hC hK hH 0 rfl rfl dX12_reads_54 ?_
          refine lv_aload_n hx hb dX12_reads_57 rfl (lv_at hl 0 rfl) ?_
          refine gf_X12_43 (v := .int (σ 0 7)) hC hK hH 0 rfl rfl dX12_reads_58 ?_
          refine x_topE (y := (nI n)) hn ?_
          refine lv_icmp_ge (tgt := 97) hx hb dX12_reads_61 (by decide) (fun c61 => ?_) (fun c61 => ?_)
          · have ge_i2 := lp_out (n := n) rfl (by omega) (by omega) c61
            have r2_ : (rd2 (σ 5) n (n + 1) 0 (rd1 (σ 5) n (n + 1) 0 0 (σ 6)).2.2 (σ 2) β) = (none, F2, β2) := by rw [← hi_i2.2.2.2.2, rd2_e (by omega)]
            refine lv_aload_n hx hb dX12_reads_97 rfl (lv_at hl 0 rfl) ?_
            refine gf_X12_19 (v := .ref (ad 4)) hC hK hH 0 rfl rfl dX12_reads_98 ?_
            refine lv_aload_n hx hb dX12_reads_101 rfl (lv_at hl 0 rfl) ?_
            refine gf_X12_13 (v := .ref (ad 2)) hC hK hH 0 rfl rfl dX12_reads_102 ?_
            refine x_callS (ws' := WM G ad (ua (ua (ua (ua σ 0 (upd (σ 0) 8 (nI i2))) 2 F2) 4 F2) 6 T2)) (As := [.ref (ad 4), .ref (ad 2)]) (rest := []) (st' := []) hC hK hZ hA hl.1 hH (k_X12_copies l G (pk ad [4, 2]) (pk (ua (ua (ua σ 0 (upd (σ 0) 8 (nI i2))) 4 F2) 6 T2) [4, 2])) lk_X12_83 [4, 2] rfl rfl rfl rfl ⟨Nat.le_of_ble_eq_true rfl, Nat.le_of_ble_eq_true rfl⟩ ⟨Nat.le_refl _, Nat.le_refl _⟩ (Nat.le_of_ble_eq_true rfl) rfl dX12_reads_105 (fun H locs hH => ?_)
            refine lv_iload_n hx hb dX12_reads_108 rfl (lv_at hl 1 rfl) ?_
            exact x_iretE (ua (ua (ua (ua σ 0 (upd (σ 0) 8 (nI i2))) 2 F2) 4 F2) 6 T2) hC hr hkL hH (by rw [rdR_3 (by rw [r1_]) (by rw [r2_]), r1_]; exact (nI_1 c).symm) (congrArg (fun z_ : Nat → Int32 => WM G ad (ua (ua (ua (ua σ 0 (upd (σ 0) 8 (nI i2))) 2 z_) 4 F2) 6 T2)) (by rw [rdR_3 (by rw [r1_]) (by rw [r2_]), r2_] : ((rdR (σ 5) n (σ 6) (σ 2) β).2.1) = F2)) dX12_reads_109
          · have lt_i2 := lp_in (n := n) rfl (by omega) (by omega) c61
            obtain ⟨g1_, eg1_⟩ : ∃ g1_, g = g1_ + 1 := ⟨g - 1, by have := hi_i2.2.1; omega⟩
            have ok_ := hi_i2.2.2.2.1 lt_i2
            rw [eg1_] at ok_
            have gt_ := gS_gt ok_.1
            have gle2_ := gS_le (L := (σ 5)) (n := n) (i := i2) (by omega)
            refine lv_aload_n hx hb dX12_reads_64 rfl (lv_at hl 0 rfl) ?_
            refine gf_X12_51 (v := .int (nI i2)) hC hK hH 0 rfl rfl dX12_reads_65 ?_
            refine lv_istore_n (lv' := [(2, .int (nI i2)), (0, .ref (ad 0)), (1, .int ((nI c) + 1))]) hx hb dX12_reads_68 rfl hl (by decide) rfl (fun ls hl => ?_)
            refine lv_aload_n hx hb dX12_reads_69 rfl (lv_at hl 1 rfl) ?_
            refine x_callVA (ws' := WM G ad (ua (ua (ua σ 0 (upd (σ 0) 8 (nI i2))) 4 F2) 6 T2)) (As := []) (rest := []) (st' := [.int (sgF (σ 5) n i2)]) hC hK hZ hA hl.1 hH (k_X12_sign l G ad (ua (ua (ua σ 0 (upd (σ 0) 8 (nI i2))) 4 F2) 6 T2) n i2 hn hn80 rfl (by omega)) lk_X12_54 rfl 0 11 rfl rfl rfl ⟨Nat.le_of_ble_eq_true rfl, Nat.le_of_ble_eq_true rfl⟩ ⟨Nat.le_refl _, Nat.le_refl _⟩ (Nat.le_of_ble_eq_true rfl) rfl dX12_reads_70 (fun H locs hH => ?_)
            refine lv_istore_n (lv' := [(3, .int (sgF (σ 5) n i2)), (2, .int (nI i2)), (0, .ref (ad 0)), (1, .int ((nI c) + 1))]) hx hb dX12_reads_73 rfl hl (by decide) rfl (fun ls hl => ?_)
            refine lv_aload_n hx hb dX12_reads_74 rfl (lv_at hl 2 rfl) ?_
            refine x_callVA (ws' := WM G ad (ua (ua (ua σ 0 (upd (σ 0) 8 (nI (gS (σ 5) n i2).2))) 4 F2) 6 (tS (σ 5) n i2 T2))) (As := []) (rest := []) (st' := [.int (bI ((gS (σ 5) n i2).1))]) hC hK hZ hA hl.1 hH (k_X12_readsStatement l G ad (ua (ua (ua σ 0 (upd (σ 0) 8 (nI i2))) 4 F2) 6 T2) n i2 hn hn80 rfl (by omega)) lk_X12_80 rfl 0 11 rfl rfl rfl ⟨Nat.le_of_ble_eq_true rfl, Nat.le_of_ble_eq_true rfl⟩ ⟨Nat.le_refl _, Nat.le_refl _⟩ (Nat.le_of_ble_eq_true rfl) rfl dX12_reads_75 (fun H locs hH => ?_)
            refine lv_istore (lv' := [(4, .int (bI ((gS (σ 5) n i2).1))), (3, .int (sgF (σ 5) n i2)), (2, .int (nI i2)), (0, .ref (ad 0)), (1, .int ((nI c) + 1))]) hx hb dX12_reads_78 hl (by decide) rfl (fun ls hl => ?_)
            refine lv_aload_n hx hb dX12_reads_80 rfl (lv_at hl 3 rfl) ?_
            refine lv_iload_n hx hb dX12_reads_81 rfl (lv_at hl 1 rfl) ?_
            refine x_callVA (ws' := WM G ad (ua (ua (ua σ 0 (upd (σ 0) 8 (nI (gS (σ 5) n i2).2))) 4 (cmF F2 β2 (tS (σ 5) n i2 T2) (sgF (σ 5) n i2))) 6 (tS (σ 5) n i2 T2))) (As := [.int (sgF (σ 5) n i2)]) (rest := []) (st' := [.int (bI (cmP β2 (tS (σ 5) n i2 T2) (sgF (σ 5) n i2)))]) hC hK hZ hA hl.1 hH (k_X12_comes l G ad (ua (ua (ua σ 0 (upd (σ 0) 8 (nI (gS (σ 5) n i2).2))) 4 F2) 6 (tS (σ 5) n i2 T2)) (sgF (σ 5) n i2) β2 hi_i2.2.2.1) lk_X12_87 rfl 0 11 rfl rfl rfl ⟨Nat.le_of_ble_eq_true rfl, Nat.le_of_ble_eq_true rfl⟩ ⟨Nat.le_refl _, Nat.le_refl _⟩ (Nat.le_of_ble_eq_true rfl) rfl dX12_reads_82 (fun H locs hH => ?_)
            refine x_bne (tgt := 94) hC dX12_reads_85 (by decide) (fun c85 => ?_) (fun c85 => ?_)
            · refine lv_goto (tgt := 53) hx hb dX12_reads_94 (by decide) ?_
              exact ih_i2 ((gS (σ 5) n i2).2, g1_, (tS (σ 5) n i2 T2), (cmF F2 β2 (tS (σ 5) n i2 T2) (sgF (σ 5) n i2)), (cmB β2 (tS (σ 5) n i2 T2) (sgF (σ 5) n i2))) (show ((gS (σ 5) n i2).2) ≤ n ∧ n - ((gS (σ 5) n i2).2) < g1_ ∧ RB (cmF F2 β2 (tS (σ 5) n i2 T2) (sgF (σ 5) n i2)) (cmB β2 (tS (σ 5) n i2 T2) (sgF (σ 5) n i2)) ∧ (((gS (σ 5) n i2).2) < n → okP (σ 5) n g1_ ((gS (σ 5) n i2).2)) ∧ rd2 (σ 5) n g1_ ((gS (σ 5) n i2).2) (tS (σ 5) n i2 T2) (cmF F2 β2 (tS (σ 5) n i2 T2) (sgF (σ 5) n i2)) (cmB β2 (tS (σ 5) n i2 T2) (sgF (σ 5) n i2)) = (rd2 (σ 5) n (n + 1) 0 (rd1 (σ 5) n (n + 1) 0 0 (σ 6)).2.2 (σ 2) β) from ⟨gle2_, by have := hi_i2.2.1; omega, hi_i2.2.2.1.come c85, ok_.2, by rw [← hi_i2.2.2.2.2, eg1_, rd2_t lt_i2 c85]⟩) (show g1_ < g from (by omega)) _ _ _ (hH.eq (congrArg (fun z_ : Nat → Int32 => WM G ad (ua (ua (ua σ 0 z_) 4 (cmF F2 β2 (tS (σ 5) n i2 T2) (sgF (σ 5) n i2))) 6 (tS (σ 5) n i2 T2))) (by rfl : (upd (σ 0) 8 (nI (gS (σ 5) n i2).2)) = (upd (σ 0) 8 (nI ((gS (σ 5) n i2).2)))))) (lv_eq (lv_sub hl [3, 4] rfl) (lc_s (lc_s rfl)))
            · have r2_ : (rd2 (σ 5) n (n + 1) 0 (rd1 (σ 5) n (n + 1) 0 0 (σ 6)).2.2 (σ 2) β).1 = some i2 := by rw [← hi_i2.2.2.2.2, eg1_, rd2_f lt_i2 c85]
              refine lv_sipush (v := (-2000)) hx hb dX12_reads_88 (by decide) ?_
              refine lv_iload_n hx hb dX12_reads_91 rfl (lv_at hl 2 rfl) ?_
              refine lv_isub hx hb dX12_reads_92 ?_
              exact x_iretE (ua (ua (ua σ 0 (upd (σ 0) 8 (nI (gS (σ 5) n i2).2))) 4 (cmF F2 β2 (tS (σ 5) n i2 T2) (sgF (σ 5) n i2))) 6 (tS (σ 5) n i2 T2)) hC hr hkL hH (by rw [rdR_2 (by rw [r1_]) r2_]) ((congrArg (fun z_ : Nat → Int32 => WM G ad (ua (ua (ua (ua σ 0 (upd (σ 0) 8 (nI (gS (σ 5) n i2).2))) 2 z_) 4 (cmF F2 β2 (tS (σ 5) n i2 T2) (sgF (σ 5) n i2))) 6 (tS (σ 5) n i2 T2))) (by rw [rdR_2 (by rw [r1_]) r2_] : ((rdR (σ 5) n (σ 6) (σ 2) β).2.1) = (σ 2))).trans (show WM G ad (ua (ua (ua (ua σ 0 (upd (σ 0) 8 (nI (gS (σ 5) n i2).2))) 2 (σ 2)) 4 (cmF F2 β2 (tS (σ 5) n i2 T2) (sgF (σ 5) n i2))) 6 (tS (σ 5) n i2 T2)) = WM G ad (ua (ua (ua σ 0 (upd (σ 0) 8 (nI (gS (σ 5) n i2).2))) 4 (cmF F2 β2 (tS (σ 5) n i2 T2) (sgF (σ 5) n i2))) 6 (tS (σ 5) n i2 T2)) from rfl)) dX12_reads_93
        · exact hH.eq (congrArg (fun z_ : Nat → Int32 => WM G ad (ua (ua (ua σ 0 z_) 4 (σ 2)) 6 (tS (σ 5) n i T))) (by rfl : (upd (σ 0) 8 0) = (upd (σ 0) 8 (nI 0))))
        · exact lv_eq (lv_sub hl [1, 0] rfl) (lc_s (lc_s rfl))
    · have r1_ : (rd1 (σ 5) n (n + 1) 0 0 (σ 6)).1 = some (gS (σ 5) n i).2 := by rw [← st_, cI_f c11]
      refine lv_sipush (v := (-1000)) hx hb dX12_reads_14 (by decide) ?_
      refine lv_aload_n hx hb dX12_reads_17 rfl (lv_at hl 0 rfl) ?_
      refine gf_X12_51 (v := .int (nI (gS (σ 5) n i).2)) hC hK hH 0 rfl rfl dX12_reads_18 ?_
      refine lv_isub hx hb dX12_reads_21 ?_
      exact x_iretE (ua (ua σ 0 (upd (σ 0) 8 (nI (gS (σ 5) n i).2))) 6 (tS (σ 5) n i T)) hC hr hkL hH (by rw [rdR_1 r1_]) ((congrArg (fun z_ : Nat → Int32 => WM G ad (ua (ua (ua σ 0 (upd (σ 0) 8 (nI (gS (σ 5) n i).2))) 2 z_) 6 (tS (σ 5) n i T))) (by rw [rdR_1 r1_] : ((rdR (σ 5) n (σ 6) (σ 2) β).2.1) = (σ 2))).trans (show WM G ad (ua (ua (ua σ 0 (upd (σ 0) 8 (nI (gS (σ 5) n i).2))) 2 (σ 2)) 6 (tS (σ 5) n i T)) = WM G ad (ua (ua σ 0 (upd (σ 0) 8 (nI (gS (σ 5) n i).2))) 6 (tS (σ 5) n i T)) from rfl)) dX12_reads_22
  · exact hH.eq (Eq.trans (show WM G ad (ua σ 0 (upd (σ 0) 8 0)) = WM G ad (ua (ua σ 0 (upd (σ 0) 8 0)) 6 (σ 6)) from rfl) (congrArg (fun z_ : Nat → Int32 => WM G ad (ua (ua σ 0 z_) 6 (σ 6))) (by rfl : (upd (σ 0) 8 0) = (upd (σ 0) 8 (nI 0)))))
  · exact lv_eq (lv_sub hl [1, 0] rfl) (lc_s (lc_i (by rfl : 0 = (nI 0)) rfl))
set_option maxHeartbeats 4000000 in
set_option maxRecDepth 100000 in
theorem k_X12_inn (l : Launch) (G : GP) (ad : Nat → Nat) (σ : Nat → Nat → Int32) (n : Nat) (β : Bk) (hn : (σ 0 7) = nI n) (hn80 : n ≤ 80) (hR : RB (σ 2) β) : CTE l G yX12_inn cX12_inn 2 (some .int) 5 [.ref (ad 0)] (WM G ad σ) (some (.int ((rdR (σ 5) n (σ 6) (σ 2) β).1))) (fun z => WM G ad (ua (ua (ua (ua σ 0 (upd (upd (σ 0) 7 0) 8 (z 0 8))) 2 ((rdR (σ 5) n (σ 6) (σ 2) β).2.1)) 4 (z 4)) 6 (z 6))) := by
  refine x_methE "BetsOnBetsModel" rfl (by decide +kernel) (fun z => by rfl) (Nat.le_of_ble_eq_true rfl) ?_
  intro pP eE sS mM args below meth cC A ls hC hr hkL hK hZ hA hH hl
  have hx := hC.1
  have hb := hC.2.1
  have hl : lv_has ls 2 [(0, .ref (ad 0))] := hl
  refine lv_aload_n hx hb dX12_inn_0 rfl (lv_at hl 0 rfl) ?_
  refine x_callVAE (wg := fun z1 => WM G ad (ua (ua (ua (ua σ 0 (upd (σ 0) 8 (z1 0 8))) 2 ((rdR (σ 5) n (σ 6) (σ 2) β).2.1)) 4 (z1 4)) 6 (z1 6))) (As := []) (rest := []) (st' := [.int ((rdR (σ 5) n (σ 6) (σ 2) β).1)]) hC hK hZ hA hl.1 hH (k_X12_reads l G ad σ n β hn hn80 hR) lk_X12_90 rfl 0 11 rfl rfl rfl ⟨Nat.le_of_ble_eq_true rfl, Nat.le_of_ble_eq_true rfl⟩ ⟨Nat.le_refl _, Nat.le_refl _⟩ (Nat.le_of_ble_eq_true rfl) rfl dX12_inn_1 (fun z1 H locs hH => ?_)
  refine lv_istore_n (lv' := [(1, .int ((rdR (σ 5) n (σ 6) (σ 2) β).1)), (0, .ref (ad 0))]) hx hb dX12_inn_4 rfl hl (by decide) rfl (fun ls hl => ?_)
  refine lv_aload_n hx hb dX12_inn_5 rfl (lv_at hl 1 rfl) ?_
  refine lv_iconst (v := 0) hx hb dX12_inn_6 (by decide) ?_
  refine pf_X12_43 (ws' := WM G ad (ua (ua (ua (ua σ 0 (upd (upd (σ 0) 7 0) 8 (z1 0 8))) 2 ((rdR (σ 5) n (σ 6) (σ 2) β).2.1)) 4 (z1 4)) 6 (z1 6))) hC hK hH 0 rfl rfl rfl (Nat.le_of_ble_eq_true rfl) dX12_inn_7 rfl (fun H locs hH => ?_)
  refine lv_iload_n hx hb dX12_inn_10 rfl (lv_at hl 0 rfl) ?_
  exact x_iretE (ua (ua (ua (ua σ 0 (upd (upd (σ 0) 7 0) 8 (z1 0 8))) 2 ((rdR (σ 5) n (σ 6) (σ 2) β).2.1)) 4 (z1 4)) 6 (z1 6)) hC hr hkL hH rfl rfl dX12_inn_11
