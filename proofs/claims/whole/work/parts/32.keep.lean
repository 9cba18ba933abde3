/-! WHAT EVERY CALL KEEPS -/
def GB (β : Bk) : Prop := bH β ≤ 4 ∧ bK β ≤ 6 ∧ KD (bN β) (bK β) ∧ GBp β ∧ SB β ∧ FB (bF β)
theorem GB.bh {β : Bk} (h : GB β) : BH β := fun j hj => (h.2.2.2.1 j hj).2.2
theorem GB.pb {β : Bk} (h : GB β) : PB β := pb_of h.2.2.2.2.1 h.2.1
theorem oV1_b {L : Nat → Int32} {n : Nat} (a : Pg) : ∃ d, d < 10 ∧ oV L n 1 a = nI d := by
  unfold oV
  by_cases q : nxF L n 1 a < 0
  · rw [cI_t q]; exact ⟨0, by decide, rfl⟩
  · rw [cI_f q]
    by_cases g : gP n a
    · rw [nxF, cI_t g] at q ⊢
      rcases ix1 (L a.2) with ⟨h, e, -⟩ | ⟨-, e⟩
      · obtain ⟨d, hd, ed⟩ := inb_of (k := 10) (by omega) h
        exact ⟨d, hd, by rw [e]; exact ed⟩
      · rw [e] at q; exact absurd (by decide) q
    · rw [nxF, cI_f g] at q; exact absurd (by decide) q
theorem tV_b {L : Nat → Int32} {n : Nat} (a : Pg) : ∃ d, d < 100 ∧ tV L n a = nI d := by
  unfold tV
  obtain ⟨d, hd, ed⟩ := oV1_b (L := L) (n := n) a
  by_cases q : nxF L n 1 (oF L n 1 a) < 0
  · rw [cI_t q]; exact ⟨d, by omega, ed⟩
  · rw [cI_f q]
    obtain ⟨f, hf, ef⟩ := oV1_b (L := L) (n := n) (oF L n 1 a)
    exact ⟨d * 10 + f, by omega, by rw [ed, ef, nIa, nIm]; rfl⟩
theorem oV1_i {L : Nat → Int32} {n : Nat} (a : Pg) : 0 ≤ (oV L n 1 a).toInt ∧ (oV L n 1 a).toInt ≤ 9 := by
  obtain ⟨d, hd, e⟩ := oV1_b (L := L) (n := n) a
  rw [e, nI_tI (by omega)]; omega
theorem tV_i {L : Nat → Int32} {n : Nat} (a : Pg) : 0 ≤ (tV L n a).toInt ∧ (tV L n a).toInt ≤ 99 := by
  obtain ⟨d, hd, e⟩ := tV_b (L := L) (n := n) a
  rw [e]; exact nI_99 hd
/-- what was read of a statement lies within its bounds -/
def TBd (c : Int32) (T : Nat → Int32) : Prop := (c = 98 → (T 0 = 0 ∨ T 0 = 1 ∨ T 0 = 2 ∨ T 0 = 3 ∨ T 0 = 4 ∨ T 0 = 5) ∧ (0 ≤ (T 3).toInt ∧ (T 3).toInt ≤ 99) ∧ (0 ≤ (T 4).toInt ∧ (T 4).toInt ≤ 9)) ∧ (¬ c = 98 ∧ ¬ c = 104 → 0 ≤ (T 1).toInt ∧ (T 1).toInt ≤ 99)
theorem ts_b {L : Nat → Int32} {n i : Nat} (h : (gS L n i).1) (T : Nat → Int32) : TBd (sgF L n i) (tS L n i T) := by
  obtain ⟨h1, h2, h3⟩ := (s_all i).2 h
  have ag := h2 T T
  refine ⟨fun e => ?_, fun e => ?_⟩
  · have b : oV L n 0 (False, i) = 1 := by
      rcases h1 with ⟨-, z⟩ | ⟨z, -⟩ | ⟨-, z⟩
      · exact absurd (e.symm.trans z) (by decide)
      · exact z
      · exact absurd (e.symm.trans z) (by decide)
    have ag' : ∀ j, j < 7 → tS L n i T j = sT L n (False, i) T j := by
      rcases ag with ⟨z, -⟩ | ⟨-, z⟩ | ⟨z, -⟩
      · exact absurd (e.symm.trans z) (by decide)
      · exact z
      · exact absurd (e.symm.trans z) (by decide)
    refine ⟨?_, ?_, ?_⟩
    · have y := h3 e T
      rw [y.2]; exact kd_6 _ y.1
    · rw [ag' 3 (by decide), sT_1 b]
      exact tV_i (L := L) (n := n) (b3 L n (oF L n 0 (False, i)))
    · rw [ag' 4 (by decide), sT_1 b]
      exact oV1_i (L := L) (n := n) (b5 L n (oF L n 0 (False, i)))
  · have b : ¬ oV L n 0 (False, i) = 0 ∧ ¬ oV L n 0 (False, i) = 1 := by
      rcases h1 with ⟨-, z⟩ | ⟨-, z⟩ | ⟨z, -⟩
      · exact absurd z e.2
      · exact absurd z e.1
      · rw [z]; decide
    have ag' : tS L n i T 1 = sT L n (False, i) T 1 := by
      rcases ag with ⟨z, -⟩ | ⟨z, -⟩ | ⟨-, -, z⟩
      · exact absurd z e.2
      · exact absurd z e.1
      · exact z
    rw [ag', sT_2 b.1 b.2]
    exact tV_i (L := L) (n := n) (oF L n 4 (oF L n 1 (oF L n 0 (False, i))))
theorem gb_cm {β : Bk} {c : Int32} {T : Nat → Int32} (h : GB β) (hc : cmP β T c) (hT : TBd c T) : GB (cmB β T c) := by
  obtain ⟨g1, g2, g3, g4, g5, g6⟩ := h
  obtain ⟨k1, k2⟩ := cm_hk hc ⟨g1, g2⟩
  have k3 := kd_cm g3 (fun e => (hT.1 e).1)
  refine ⟨k1, k2, k3, ?_⟩
  by_cases q1 : c = 104
  · rw [cmB_h q1]; exact ⟨g4, g5, g6⟩
  by_cases q2 : c = 98
  · obtain ⟨-, -, p3, p5, p6, pn, -⟩ := (cmP_b q2).mp hc
    rw [cmB_b q2]
    have lo : ∀ j w, j < bK β → w < 7 → nm ((bH β, bK β + 1), bC β, cpB (bN β) (7 * bK β) T 7, bF β) j w = nm β j w := fun j w hj hw => cpB_lo (by omega) 7
    have hi : ∀ w, w < 7 → nm ((bH β, bK β + 1), bC β, cpB (bN β) (7 * bK β) T 7, bF β) (bK β) w = T w := fun w hw => cpB_at 7 hw
    refine ⟨fun j hj => ?_, fun j hj => ?_, g6⟩
    · have hj : j < bK β + 1 := hj
      by_cases e : j = bK β
      · rw [e, hi 5 (by decide), hi 6 (by decide)]; exact ⟨p5, p6, pn⟩
      · rw [lo j 5 (by omega) (by decide), lo j 6 (by omega) (by decide)]; exact g4 j (by omega)
    · have hj : j < bK β + 1 := hj
      by_cases e : j = bK β
      · rw [e, hi 3 (by decide), hi 4 (by decide)]; exact (hT.1 q2).2
      · rw [lo j 3 (by omega) (by decide), lo j 4 (by omega) (by decide)]; exact g5 j (by omega)
  · rw [cmB_d ⟨q2, q1⟩]
    have p := (cmP_d ⟨q2, q1⟩).mp hc
    refine ⟨g4, g5, fun j hj => ?_⟩
    show 0 ≤ (upd (bF β) (T 0).toNatClampNeg (T 1) j).toInt ∧ _
    by_cases e : j = (T 0).toNatClampNeg
    · rw [e]
      show 0 ≤ (upd (bF β) (T 0).toNatClampNeg (T 1) (T 0).toNatClampNeg).toInt ∧ (upd (bF β) (T 0).toNatClampNeg (T 1) (T 0).toNatClampNeg).toInt ≤ 99
      rw [pk_us]; exact hT.2 ⟨q2, q1⟩
    · show 0 ≤ (upd (bF β) (T 0).toNatClampNeg (T 1) j).toInt ∧ (upd (bF β) (T 0).toNatClampNeg (T 1) j).toInt ≤ 99
      rw [pk_un e]; exact g6 j hj
theorem rd2_GB {L : Nat → Int32} {n : Nat} : ∀ (f i : Nat) (T F : Nat → Int32) (β : Bk), (i < n → okP L n f i) → GB β → GB (rd2 L n f i T F β).2.2 := by
  intro f
  induction f with
  | zero => intro i T F β _ h; exact h
  | succ f ih =>
    intro i T F β ho h
    by_cases q : i < n
    · obtain ⟨o1, o2⟩ := ho q
      by_cases hc : cmP β (tS L n i T) (sgF L n i)
      · rw [rd2_t q hc]; exact ih _ _ _ _ o2 (gb_cm h hc (ts_b o1 T))
      · rw [rd2_f q hc]; exact h
    · rw [rd2_e q]; exact h
theorem rdR_GB {L : Nat → Int32} {n : Nat} {T f : Nat → Int32} {β : Bk} (h : GB β) : GB (rdR L n T f β).2.2 := by
  cases e1 : (rd1 L n (n + 1) 0 0 T).1 with
  | some pl => rw [rdR_1 e1]; exact h
  | none =>
    cases e2 : (rd2 L n (n + 1) 0 (rd1 L n (n + 1) 0 0 T).2.2 f β).1 with
    | some pl => rw [rdR_2 e1 e2]; exact h
    | none => rw [rdR_3 e1 e2]; exact rd2_GB _ _ _ _ _ (fun _ => rd1_ok (n + 1) 0 0 T (by omega) e1) h
theorem rdR_no {L : Nat → Int32} {n : Nat} {T f : Nat → Int32} {β : Bk} (h : ¬ rdOk L n T f β) : (rdR L n T f β).2.2 = β := by
  cases e1 : (rd1 L n (n + 1) 0 0 T).1 with
  | some pl => rw [rdR_1 e1]
  | none =>
    cases e2 : (rd2 L n (n + 1) 0 (rd1 L n (n + 1) 0 0 T).2.2 f β).1 with
    | some pl => rw [rdR_2 e1 e2]
    | none => exact absurd ⟨e1, e2⟩ h
theorem in_WyE {L : Nat → Int32} {n : Nat} {T f : Nat → Int32} {β : Bk} {a b c d : Nat → Int32} (h : WyE β a b c d) : WyE (rdR L n T f β).2.2 (inW (rdOk L n T f β) wyM (rdR L n T f β).2.2 a) (inW (rdOk L n T f β) wyF (rdR L n T f β).2.2 b) (inW (rdOk L n T f β) wyW (rdR L n T f β).2.2 c) (inW (rdOk L n T f β) wyO (rdR L n T f β).2.2 d) := by
  unfold inW
  by_cases o : rdOk L n T f β
  · rw [cI_t o, cI_t o, cI_t o, cI_t o]
    exact fun e he => ⟨cpyF_in _ _ he, cpyF_in _ _ he, cpyF_in _ _ he, cpyF_in _ _ he⟩
  · rw [cI_f o, cI_f o, cI_f o, cI_f o, rdR_no o]; exact h
theorem be_WyE {β γ : Bk} {a b c d : Nat → Int32} (h : BE β γ) (w : WyE γ a b c d) : WyE β a b c d := by
  intro e he
  rw [bH_be h] at he
  obtain ⟨w1, w2, w3, w4⟩ := w e he
  have q : fwA β (nI e) = fwA γ (nI e) := by unfold fwA; rw [bK_be h, fw_be h]
  unfold wyM wyF wyW wyO
  rw [q, bK_be h]
  exact ⟨w1, w2, w3, w4⟩
theorem sb_4 {β : Bk} {b : Nat} {v : Int32} (h : SB β) (hv : 0 ≤ v.toInt ∧ v.toInt ≤ 9) : SB (bSet β (7 * b + 4) v) := by
  intro j hj
  refine ⟨by rw [nm_set j 3 (by decide) (by decide) (by decide)]; exact (h j hj).1, ?_⟩
  by_cases q : j = b
  · subst q; rw [nm_set_s]; exact hv
  · rw [show nm (bSet β (7 * b + 4) v) j 4 = nm β j 4 from pk_un (show 7 * j + 4 ≠ 7 * b + 4 by omega)]; exact (h j hj).2
theorem gb_set {β : Bk} {b u : Nat} {v : Int32} (h : GB β) (hu : u = 3 ∨ u = 4) (hs : SB (bSet β (7 * b + u) v)) : GB (bSet β (7 * b + u) v) := by
  obtain ⟨g1, g2, g3, g4, g5, g6⟩ := h
  refine ⟨g1, g2, fun j hj => ?_, fun j hj => ?_, hs, g6⟩
  · show upd (bN β) (7 * b + u) v (7 * j + 0) = 0 ∨ upd (bN β) (7 * b + u) v (7 * j + 0) = 1 ∨ upd (bN β) (7 * b + u) v (7 * j + 0) = 2 ∨ upd (bN β) (7 * b + u) v (7 * j + 0) = 3 ∨ upd (bN β) (7 * b + u) v (7 * j + 0) = 4 ∨ upd (bN β) (7 * b + u) v (7 * j + 0) = 5
    rw [pk_un (by omega)]; exact g3 j hj
  · rw [nm_set j 5 (by omega) (by decide) (by omega), nm_set j 6 (by omega) (by decide) (by omega)]; exact g4 j hj
theorem wi_0 {v a b : Int32} (h : wiC v a b = 0) : ¬ v < a ∧ ¬ b < v := by
  unfold wiC at h
  by_cases q : v < a
  · rw [if_pos q] at h; exact absurd h (by decide)
  · by_cases q2 : b < v
    · rw [if_neg q, if_pos q2] at h; exact absurd h (by decide)
    · exact ⟨q, q2⟩
theorem i_bd {v : Int32} {m : Int} (M : Int32) (hM : M.toInt = m) (h0 : ¬ v < 0) (h1 : ¬ M < v) : 0 ≤ v.toInt ∧ v.toInt ≤ m := by
  rw [Int32.lt_iff_toInt_lt] at h0 h1
  rw [show (0 : Int32).toInt = 0 from rfl] at h0
  omega
theorem set_0 {k : Nat} {b w v : Int32} (hk : k ≤ 6) (h : setC k b w v = 0) : ∃ j u, j < k ∧ b.toNatClampNeg = j ∧ w.toNatClampNeg = u ∧ ((u = 0 ∧ 0 ≤ v.toInt ∧ v.toInt ≤ 99) ∨ (u = 1 ∧ 0 ≤ v.toInt ∧ v.toInt ≤ 9)) := by
  unfold setC at h
  by_cases h1 : inb b k
  · rw [cI_t h1] at h
    by_cases h2 : inb w 2
    · rw [cI_t h2] at h
      obtain ⟨j, hj, ej⟩ := inb_of (by omega) h1
      obtain ⟨u, hu, eu⟩ := inb_of (by omega) h2
      refine ⟨j, u, hj, by rw [ej]; exact nI_clamp (by omega), by rw [eu]; exact nI_clamp (by omega), ?_⟩
      obtain ⟨w1, w2⟩ := wi_0 h
      match u, hu with
      | 0, _ =>
        rw [if_pos (show w = 0 from eu)] at w1 w2
        refine Or.inl ⟨rfl, i_bd 99 rfl (fun z => w1 (Int32.lt_trans z (by decide))) w2⟩
      | 1, _ =>
        have nw : ¬ w = 0 := by rw [eu]; decide
        rw [if_neg nw] at w1 w2
        exact Or.inr ⟨rfl, i_bd 9 rfl w1 w2⟩
      | u + 2, hu => exact absurd hu (by omega)
    · rw [cI_f h2] at h; exact absurd h (by decide)
  · rw [cI_f h1] at h; exact absurd h (by decide)
theorem fund_0 {p v : Int32} (h : fundC p v = 0) : ∃ j, j < 4 ∧ p.toNatClampNeg = j ∧ 0 ≤ v.toInt ∧ v.toInt ≤ 99 := by
  unfold fundC at h
  by_cases h1 : inb p 4
  · rw [cI_t h1] at h
    obtain ⟨j, hj, ej⟩ := inb_of (by omega) h1
    obtain ⟨w1, w2⟩ := wi_0 h
    exact ⟨j, hj, by rw [ej]; exact nI_clamp (by omega), i_bd 99 rfl w1 w2⟩
  · rw [cI_f h1] at h; exact absurd h (by decide)
theorem let_0 {n : Nat} {v mx : Int32} {full : Nat} (h : letC n v mx full = 0) : ¬ v < 0 ∧ ¬ mx < v ∧ ¬ n = full := by
  unfold letC at h
  by_cases h1 : v < 0
  · rw [if_pos h1] at h; exact absurd h (by decide)
  by_cases h2 : mx < v
  · rw [if_neg h1, if_pos h2] at h; exact absurd h (by decide)
  by_cases h3 : n = full
  · rw [if_neg h1, if_neg h2, if_pos h3] at h; exact absurd h (by decide)
  · exact ⟨h1, h2, h3⟩
theorem lb_up {L : Nat → Int32} {n : Nat} {v : Int32} (h : LB L n) (h0 : ¬ v < 0) (h1 : ¬ 255 < v) : LB (upd L n v) (n + 1) := by
  intro j hj
  by_cases e : j = n
  · rw [e, pk_us]
    obtain ⟨c, hc, ec⟩ := nI_of2 (M := 255) (n := 255) rfl h0 (Int32.not_lt.mp h1)
    exact ⟨c, by omega, ec⟩
  · rw [pk_un e]; exact h j (by omega)
theorem mgG_0 (β : Bk) (e : Int32) (g : Nat → Int32) : ∀ s, mgG β e g s 0 = g 0 := by
  intro s
  induction s with
  | zero => rfl
  | succ s ih =>
    rw [mgG]
    by_cases h : s = 0
    · rw [if_pos h]
    · rw [if_neg h, pk_un (by omega)]; exact ih
/-! the two worlds, side by side -/
def IVB (σ τ : Nat → Nat → Int32) (h k : Nat) : Prop := σ 7 3 = nI h ∧ σ 7 4 = nI k ∧ GB (bk h k (σ 8) (σ 9) (σ 10)) ∧ RB (τ 2) (bk h k (σ 8) (σ 9) (σ 10)) ∧ WyE (bk h k (σ 8) (σ 9) (σ 10)) (σ 21) (σ 22) (σ 23) (σ 24)
def IVK (σ τ : Nat → Nat → Int32) (h k : Nat) : Prop := σ 0 9 = τ 0 4 ∧ σ 15 3 = nI h ∧ σ 15 4 = nI k ∧ GB (bk h k (σ 16) (σ 17) (σ 18)) ∧ (¬ τ 0 4 = 0 → RB (τ 3) (bk h k (σ 16) (σ 17) (σ 18)))
def IVL (σ τ : Nat → Nat → Int32) (n : Nat) : Prop := σ 1 1 = nI n ∧ τ 0 7 = nI n ∧ n ≤ 80 ∧ σ 2 = τ 5 ∧ LB (σ 2) n
def IVR (σ τ : Nat → Nat → Int32) (z : Nat) : Prop := σ 3 1 = nI z ∧ τ 0 14 = nI z ∧ z ≤ 4 ∧ σ 4 = τ 7
def IVX (σ τ : Nat → Nat → Int32) : Prop := σ 31 = τ 1 ∧ σ 32 0 = 0
def INV (σ τ : Nat → Nat → Int32) : Prop := ∃ h k h2 k2 n z, IVB σ τ h k ∧ IVK σ τ h2 k2 ∧ IVL σ τ n ∧ IVR σ τ z ∧ IVX σ τ
/-- what the reference's calls leave in its own fields -/
abbrev uy4 (τ : Nat → Nat → Int32) (y : Nat → Nat → Int32) : Nat → Int32 := upd (upd (upd (upd (τ 0) 9 (y 0 9)) 10 (y 0 10)) 11 (y 0 11)) 12 (y 0 12)
/-- worlds that are alike where the invariant looks -/
theorem inv_eq {σ τ σ' τ' : Nat → Nat → Int32} (h : INV σ τ) (e : σ' 1 = σ 1 ∧ σ' 2 = σ 2 ∧ σ' 3 = σ 3 ∧ σ' 4 = σ 4 ∧ σ' 7 = σ 7 ∧ σ' 8 = σ 8 ∧ σ' 9 = σ 9 ∧ σ' 10 = σ 10 ∧ σ' 15 = σ 15 ∧ σ' 16 = σ 16 ∧ σ' 17 = σ 17 ∧ σ' 18 = σ 18 ∧ σ' 21 = σ 21 ∧ σ' 22 = σ 22 ∧ σ' 23 = σ 23 ∧ σ' 24 = σ 24) (e0 : σ' 0 9 = σ 0 9) (e2 : σ' 32 0 = σ 32 0) (t0 : τ' 0 4 = τ 0 4 ∧ τ' 0 7 = τ 0 7 ∧ τ' 0 14 = τ 0 14) (t1 : τ' 2 = τ 2 ∧ τ' 3 = τ 3 ∧ τ' 5 = τ 5 ∧ τ' 7 = τ 7) (ex : σ 31 = τ 1 → σ' 31 = τ' 1) : INV σ' τ' := by
  obtain ⟨h, k, h2, k2, n, z, hB, hK, hL, hR, hX⟩ := h
  obtain ⟨s1, s2, s3, s4, s7, s8, s9, s10, s15, s16, s17, s18, s21, s22, s23, s24⟩ := e
  obtain ⟨r2, r3, r5, r7⟩ := t1
  refine ⟨h, k, h2, k2, n, z, ?_, ?_, ?_, ?_, ?_⟩
  · unfold IVB; rw [s7, s8, s9, s10, s21, s22, s23, s24, r2]; exact hB
  · unfold IVK; rw [e0, t0.1, s15, s16, s17, s18, r3]; exact hK
  · unfold IVL; rw [s1, s2, t0.2.1, r5]; exact hL
  · unfold IVR; rw [s3, s4, t0.2.2, r7]; exact hR
  · exact ⟨ex hX.1, by rw [e2]; exact hX.2⟩
theorem inv_aa {σ τ : Nat → Nat → Int32} (c : Nat) (h : INV σ τ) : INV (ua σ 31 (rfz (σ 31) c)) (ua τ 1 (rfz (τ 1) c)) := inv_eq h ⟨rfl, rfl, rfl, rfl, rfl, rfl, rfl, rfl, rfl, rfl, rfl, rfl, rfl, rfl, rfl, rfl⟩ rfl rfl ⟨rfl, rfl, rfl⟩ ⟨rfl, rfl, rfl, rfl⟩ (fun e => show rfz (σ 31) c = rfz (τ 1) c by rw [e])
theorem inv_ac {σ τ : Nat → Nat → Int32} (c : Nat) (y : Nat → Nat → Int32) (h : INV σ τ) : INV (ua σ 31 (rfz (σ 31) c)) (ua (ua τ 0 (uy4 τ y)) 1 (rfz (τ 1) c)) := inv_eq h ⟨rfl, rfl, rfl, rfl, rfl, rfl, rfl, rfl, rfl, rfl, rfl, rfl, rfl, rfl, rfl, rfl⟩ rfl rfl ⟨rfl, rfl, rfl⟩ ⟨rfl, rfl, rfl, rfl⟩ (fun e => show rfz (σ 31) c = rfz (τ 1) c by rw [e])
theorem inv_bd {σ τ : Nat → Nat → Int32} (y : Nat → Nat → Int32) (h : INV σ τ) : INV (σ) (ua τ 0 (uy4 τ y)) := inv_eq h ⟨rfl, rfl, rfl, rfl, rfl, rfl, rfl, rfl, rfl, rfl, rfl, rfl, rfl, rfl, rfl, rfl⟩ rfl rfl ⟨rfl, rfl, rfl⟩ ⟨rfl, rfl, rfl, rfl⟩ (id)
theorem inv_cc {σ τ : Nat → Nat → Int32} (c : Nat) (w : Nat → Nat → Int32) (y : Nat → Nat → Int32) (h : INV σ τ) : INV (ua (ua (ua (ua (ua σ 11 (upd (upd (σ 11) 3 (w 11 3)) 4 (w 11 4))) 12 (w 12)) 13 (w 13)) 14 (w 14)) 31 (rfz (σ 31) c)) (ua (ua τ 0 (uy4 τ y)) 1 (rfz (τ 1) c)) := inv_eq h ⟨rfl, rfl, rfl, rfl, rfl, rfl, rfl, rfl, rfl, rfl, rfl, rfl, rfl, rfl, rfl, rfl⟩ rfl rfl ⟨rfl, rfl, rfl⟩ ⟨rfl, rfl, rfl, rfl⟩ (fun e => show rfz (σ 31) c = rfz (τ 1) c by rw [e])
theorem inv_db {σ τ : Nat → Nat → Int32} (g : Nat → Int32) (h : INV σ τ) : INV (ua σ 33 g) (τ) := inv_eq h ⟨rfl, rfl, rfl, rfl, rfl, rfl, rfl, rfl, rfl, rfl, rfl, rfl, rfl, rfl, rfl, rfl⟩ rfl rfl ⟨rfl, rfl, rfl⟩ ⟨rfl, rfl, rfl, rfl⟩ (id)
theorem inv_ec {σ τ : Nat → Nat → Int32} (c : Nat) (g : Nat → Int32) (y : Nat → Nat → Int32) (hg : g 0 = σ 32 0) (h : INV σ τ) : INV (ua (ua σ 31 (rfz (σ 31) c)) 32 g) (ua (ua τ 0 (uy4 τ y)) 1 (rfz (τ 1) c)) := inv_eq h ⟨rfl, rfl, rfl, rfl, rfl, rfl, rfl, rfl, rfl, rfl, rfl, rfl, rfl, rfl, rfl, rfl⟩ rfl hg ⟨rfl, rfl, rfl⟩ ⟨rfl, rfl, rfl, rfl⟩ (fun e => show rfz (σ 31) c = rfz (τ 1) c by rw [e])
theorem ifz_t {α : Type} (c : Nat) (a b : α) (P : α → Prop) (h0 : c = 0 → P a) (h1 : ¬ c = 0 → P b) : P (ifz c a b) := by
  by_cases h : c = 0
  · rw [ifz0 h]; exact h0 h
  · rw [show ifz c a b = b from if_neg h]; exact h1 h
theorem inv_letter {σ τ : Nat → Nat → Int32} {h k h2 k2 n z : Nat} (hB : IVB σ τ h k) (hK : IVK σ τ h2 k2) (hL : IVL σ τ n) (hR : IVR σ τ z) (hX : IVX σ τ) (v : Int32) :
    INV (ua (ua (ua σ 1 (upd (σ 1) 1 (nI (ifz (letC n v 255 80) (n + 1) n)))) 2 (ifz (letC n v 255 80) (upd (σ 2) n v) (σ 2))) 31 (rfz (σ 31) (letC n v 255 80))) (ua (ua (ua τ 0 (upd (τ 0) 7 (nI (ifz (letC n v 255 80) (n + 1) n)))) 1 (rfz (τ 1) (letC n v 255 80))) 5 (ifz (letC n v 255 80) (upd (τ 5) n v) (τ 5))) := by
  obtain ⟨l1, l2, l3, l4, l5⟩ := hL
  refine ⟨h, k, h2, k2, ifz (letC n v 255 80) (n + 1) n, z, hB, hK, ⟨rfl, rfl, ?_, ?_, ?_⟩, hR, ⟨?_, hX.2⟩⟩
  · by_cases c : letC n v 255 80 = 0
    · rw [ifz0 c]; have := (let_0 c).2.2; omega
    · rw [show ifz (letC n v 255 80) (n + 1) n = n from if_neg c]; exact l3
  · show ifz (letC n v 255 80) (upd (σ 2) n v) (σ 2) = ifz (letC n v 255 80) (upd (τ 5) n v) (τ 5)
    rw [l4]
  · show LB (ifz (letC n v 255 80) (upd (σ 2) n v) (σ 2)) (ifz (letC n v 255 80) (n + 1) n)
    by_cases c : letC n v 255 80 = 0
    · rw [ifz0 c, ifz0 c]; exact lb_up l5 (let_0 c).1 (let_0 c).2.1
    · rw [show ifz (letC n v 255 80) (n + 1) n = n from if_neg c, show ifz (letC n v 255 80) (upd (σ 2) n v) (σ 2) = σ 2 from if_neg c]; exact l5
  · show rfz (σ 31) _ = rfz (τ 1) _
    rw [hX.1]
theorem inv_row {σ τ : Nat → Nat → Int32} {h k h2 k2 n z : Nat} (hB : IVB σ τ h k) (hK : IVK σ τ h2 k2) (hL : IVL σ τ n) (hR : IVR σ τ z) (hX : IVX σ τ) (v : Int32) :
    INV (ua (ua (ua σ 3 (upd (σ 3) 1 (nI (ifz (letC z v 999 4) (z + 1) z)))) 4 (ifz (letC z v 999 4) (upd (σ 4) z v) (σ 4))) 31 (rfz (σ 31) (letC z v 999 4))) (ua (ua (ua τ 0 (upd (τ 0) 14 (nI (ifz (letC z v 999 4) (z + 1) z)))) 1 (rfz (τ 1) (letC z v 999 4))) 7 (ifz (letC z v 999 4) (upd (τ 7) z v) (τ 7))) := by
  obtain ⟨l1, l2, l3, l4⟩ := hR
  refine ⟨h, k, h2, k2, n, ifz (letC z v 999 4) (z + 1) z, hB, hK, hL, ⟨rfl, rfl, ?_, ?_⟩, ⟨?_, hX.2⟩⟩
  · by_cases c : letC z v 999 4 = 0
    · rw [ifz0 c]; have := (let_0 c).2.2; omega
    · rw [show ifz (letC z v 999 4) (z + 1) z = z from if_neg c]; exact l3
  · show ifz (letC z v 999 4) (upd (σ 4) z v) (σ 4) = ifz (letC z v 999 4) (upd (τ 7) z v) (τ 7)
    rw [l4]
  · show rfz (σ 31) _ = rfz (τ 1) _
    rw [hX.1]
theorem inv_judge {σ τ : Nat → Nat → Int32} {h k h2 k2 n z : Nat} (hB : IVB σ τ h k) (hK : IVK σ τ h2 k2) (hL : IVL σ τ n) (hR : IVR σ τ z) (hX : IVX σ τ) (c : Nat) (y : Nat → Nat → Int32) :
    INV (ua (ua σ 3 (upd (σ 3) 1 (ifz c 0 (nI z)))) 31 (rfz (σ 31) c)) (ua (ua τ 0 (upd (uy4 τ y) 14 (ifz c 0 (nI z)))) 1 (rfz (τ 1) c)) := by
  obtain ⟨l1, l2, l3, l4⟩ := hR
  refine ⟨h, k, h2, k2, n, ifz c 0 z, hB, hK, hL, ⟨?_, ?_, ?_, l4⟩, ⟨?_, hX.2⟩⟩
  · show ifz c 0 (nI z) = nI (ifz c 0 z)
    by_cases q : c = 0
    · rw [ifz0 q, ifz0 q]; rfl
    · rw [show ifz c (0 : Int32) (nI z) = nI z from if_neg q, show ifz c 0 z = z from if_neg q]
  · show ifz c 0 (nI z) = nI (ifz c 0 z)
    by_cases q : c = 0
    · rw [ifz0 q, ifz0 q]; rfl
    · rw [show ifz c (0 : Int32) (nI z) = nI z from if_neg q, show ifz c 0 z = z from if_neg q]
  · by_cases q : c = 0
    · rw [ifz0 q]; omega
    · rw [show ifz c 0 z = z from if_neg q]; exact l3
  · show rfz (σ 31) _ = rfz (τ 1) _
    rw [hX.1]
theorem inv_set {σ τ : Nat → Nat → Int32} {h k h2 k2 n z : Nat} (hB : IVB σ τ h k) (hK : IVK σ τ h2 k2) (hL : IVL σ τ n) (hR : IVR σ τ z) (hX : IVX σ τ) (b w v : Int32) :
    INV (ua (ua σ 9 (ifz (setC k b w v) (upd (σ 9) (7 * (b).toNatClampNeg + (3 + (w).toNatClampNeg)) v) (σ 9))) 31 (rfz (σ 31) (setC k b w v))) (ua (ua τ 1 (rfz (τ 1) (setC k b w v))) 2 (ifz (setC k b w v) (upd (τ 2) (10 + (7 * (b).toNatClampNeg + (3 + (w).toNatClampNeg))) v) (τ 2))) := by
  have hx : rfz (σ 31) (setC k b w v) = rfz (τ 1) (setC k b w v) := by rw [hX.1]
  obtain ⟨b1, b2, b3, b4, b5⟩ := hB
  by_cases c : setC k b w v = 0
  · obtain ⟨j, u, hj, ej, eu, hv⟩ := set_0 (k := k) b3.2.1 c
    have hk6 : k ≤ 6 := b3.2.1
    have hu : u = 0 ∨ u = 1 := hv.elim (fun q => Or.inl q.1) (fun q => Or.inr q.1)
    rw [ifz0 c, ifz0 c, ej, eu]
    refine ⟨h, k, h2, k2, n, z, ⟨b1, b2, ?_, ?_, ?_⟩, hK, hL, hR, ⟨hx, hX.2⟩⟩
    · refine (gb_set (β := bk h k (σ 8) (σ 9) (σ 10)) (b := j) (u := 3 + u) (v := v) b3 (by omega) ?_ : GB (bSet (bk h k (σ 8) (σ 9) (σ 10)) (7 * j + (3 + u)) v))
      rcases hv with ⟨e, hv⟩ | ⟨e, hv⟩
      · rw [e]; exact sb_3 b3.2.2.2.2.1 hv
      · rw [e]; exact sb_4 b3.2.2.2.2.1 hv
    · exact (RB.set b4 (show 7 * j + (3 + u) < 42 by omega) v : RB (upd (τ 2) (10 + (7 * j + (3 + u))) v) (bSet (bk h k (σ 8) (σ 9) (σ 10)) (7 * j + (3 + u)) v))
    · exact (be_WyE (be_set (β := bk h k (σ 8) (σ 9) (σ 10)) (b := j) (u := 3 + u) (v := v) (by omega) (by omega)) b5 : WyE (bSet (bk h k (σ 8) (σ 9) (σ 10)) (7 * j + (3 + u)) v) (σ 21) (σ 22) (σ 23) (σ 24))
  · rw [show ifz (setC k b w v) (upd (σ 9) (7 * (b).toNatClampNeg + (3 + (w).toNatClampNeg)) v) (σ 9) = σ 9 from if_neg c, show ifz (setC k b w v) (upd (τ 2) (10 + (7 * (b).toNatClampNeg + (3 + (w).toNatClampNeg))) v) (τ 2) = τ 2 from if_neg c]
    exact ⟨h, k, h2, k2, n, z, ⟨b1, b2, b3, b4, b5⟩, hK, hL, hR, ⟨hx, hX.2⟩⟩
theorem rb_fund {f : Nat → Int32} {h k : Nat} {C N F : Nat → Int32} (hr : RB f (bk h k C N F)) {j : Nat} (hj : j < 4) (v : Int32) : RB (upd f (6 + j) v) (bk h k C N (upd F j v)) := by
  obtain ⟨h1, h2, h3, h4, h5, h6, h7⟩ := hr
  refine ⟨?_, ?_, h3, h4, fun i hi => ?_, fun i hi => ?_, fun i hi => ?_⟩
  · rw [pk_un (by omega)]; exact h1
  · rw [pk_un (by omega)]; exact h2
  · rw [pk_un (by omega)]; exact h5 i hi
  · show upd f (6 + j) v (6 + i) = upd F j v i
    by_cases e : i = j
    · rw [e, pk_us, pk_us]
    · rw [pk_un (by omega), pk_un e]; exact h6 i hi
  · rw [pk_un (by omega)]; exact h7 i hi
theorem inv_fund {σ τ : Nat → Nat → Int32} {h k h2 k2 n z : Nat} (hB : IVB σ τ h k) (hK : IVK σ τ h2 k2) (hL : IVL σ τ n) (hR : IVR σ τ z) (hX : IVX σ τ) (p v : Int32) :
    INV (ua (ua σ 10 (ifz (fundC p v) (upd (σ 10) (p).toNatClampNeg v) (σ 10))) 31 (rfz (σ 31) (fundC p v))) (ua (ua τ 1 (rfz (τ 1) (fundC p v))) 2 (ifz (fundC p v) (upd (τ 2) (6 + (p).toNatClampNeg) v) (τ 2))) := by
  have hx : rfz (σ 31) (fundC p v) = rfz (τ 1) (fundC p v) := by rw [hX.1]
  obtain ⟨b1, b2, b3, b4, b5⟩ := hB
  by_cases c : fundC p v = 0
  · obtain ⟨j, hj, ej, hv⟩ := fund_0 c
    rw [ifz0 c, ifz0 c, ej]
    refine ⟨h, k, h2, k2, n, z, ⟨b1, b2, ?_, rb_fund b4 hj v, ?_⟩, hK, hL, hR, ⟨hx, hX.2⟩⟩
    · obtain ⟨g1, g2, g3, g4, g5, g6⟩ := b3
      refine ⟨g1, g2, g3, g4, g5, fun i hi => ?_⟩
      show 0 ≤ (upd (σ 10) j v i).toInt ∧ (upd (σ 10) j v i).toInt ≤ 99
      by_cases e : i = j
      · rw [e, pk_us]; exact hv
      · rw [pk_un e]; exact g6 i hi
    · exact be_WyE (β := bk h k (σ 8) (σ 9) (upd (σ 10) j v)) (γ := bk h k (σ 8) (σ 9) (σ 10)) ⟨rfl, rfl, fun _ _ _ => rfl⟩ b5
  · rw [show ifz (fundC p v) (upd (σ 10) (p).toNatClampNeg v) (σ 10) = σ 10 from if_neg c, show ifz (fundC p v) (upd (τ 2) (6 + (p).toNatClampNeg) v) (τ 2) = τ 2 from if_neg c]
    exact ⟨h, k, h2, k2, n, z, ⟨b1, b2, b3, b4, b5⟩, hK, hL, hR, ⟨hx, hX.2⟩⟩
theorem inv_image {σ τ : Nat → Nat → Int32} {h k h2 k2 n z : Nat} (hB : IVB σ τ h k) (hL : IVL σ τ n) (hR : IVR σ τ z) (hX : IVX σ τ) :
    INV (ua (ua (ua (ua (ua σ 0 (upd (σ 0) 9 1)) 15 (upd (upd (σ 15) 3 (σ 7 3)) 4 (σ 7 4))) 16 (σ 8)) 17 (σ 9)) 18 (σ 10)) (ua (ua τ 0 (upd (τ 0) 4 1)) 3 (τ 2)) :=
  ⟨h, k, h, k, n, z, hB, ⟨rfl, hB.1, hB.2.1, hB.2.2.1, fun _ => hB.2.2.2.1⟩, hL, hR, hX⟩
theorem inv_on {σ τ : Nat → Nat → Int32} {h k h2 k2 n z : Nat} (hB : IVB σ τ h k) (hK : IVK σ τ h2 k2) (hL : IVL σ τ n) (hR : IVR σ τ z) (hX : IVX σ τ) :
    INV (ua (ua (ua (ua (ua (ua (ua (ua (ua σ 7 (upd (upd (σ 7) 3 (ifz (onC (σ 0 9)) (nI h2) (σ 7 3))) 4 (ifz (onC (σ 0 9)) (nI k2) (σ 7 4)))) 8 (ifz (onC (σ 0 9)) (σ 16) (σ 8))) 9 (ifz (onC (σ 0 9)) (σ 17) (σ 9))) 10 (ifz (onC (σ 0 9)) (σ 18) (σ 10))) 21 (ifz (onC (σ 0 9)) (cpyF (wyM (bk h2 k2 (σ 16) (σ 17) (σ 18))) (σ 21) (2 ^ h2)) (σ 21))) 22 (ifz (onC (σ 0 9)) (cpyF (wyF (bk h2 k2 (σ 16) (σ 17) (σ 18))) (σ 22) (2 ^ h2)) (σ 22))) 23 (ifz (onC (σ 0 9)) (cpyF (wyW (bk h2 k2 (σ 16) (σ 17) (σ 18))) (σ 23) (2 ^ h2)) (σ 23))) 24 (ifz (onC (σ 0 9)) (cpyF (wyO (bk h2 k2 (σ 16) (σ 17) (σ 18))) (σ 24) (2 ^ h2)) (σ 24))) 31 (rfz (σ 31) (onC (σ 0 9))))
      (ua (ua τ 1 (rfz (τ 1) (onC (τ 0 4)))) 2 (ifz (onC (τ 0 4)) (τ 3) (τ 2))) := by
  obtain ⟨b1, b2, b3, b4, b5⟩ := hB
  have hx : rfz (σ 31) (onC (σ 0 9)) = rfz (τ 1) (onC (τ 0 4)) := by rw [hX.1, hK.1]
  by_cases f : τ 0 4 = 0
  · have cc : ¬ onC (σ 0 9) = 0 := by rw [hK.1, f]; decide
    have ct : ¬ onC (τ 0 4) = 0 := by rw [f]; decide
    have e : ∀ {α : Type} (a b : α), ifz (onC (σ 0 9)) a b = b := fun a b => if_neg cc
    have e' : ∀ {α : Type} (a b : α), ifz (onC (τ 0 4)) a b = b := fun a b => if_neg ct
    refine ⟨h, k, h2, k2, n, z, ⟨?_, ?_, ?_, ?_, ?_⟩, hK, hL, hR, ⟨hx, hX.2⟩⟩
    · show ifz (onC (σ 0 9)) (nI h2) (σ 7 3) = nI h
      rw [e]; exact b1
    · show ifz (onC (σ 0 9)) (nI k2) (σ 7 4) = nI k
      rw [e]; exact b2
    · show GB (bk h k (ifz (onC (σ 0 9)) (σ 16) (σ 8)) (ifz (onC (σ 0 9)) (σ 17) (σ 9)) (ifz (onC (σ 0 9)) (σ 18) (σ 10)))
      rw [e, e, e]; exact b3
    · show RB (ifz (onC (τ 0 4)) (τ 3) (τ 2)) (bk h k (ifz (onC (σ 0 9)) (σ 16) (σ 8)) (ifz (onC (σ 0 9)) (σ 17) (σ 9)) (ifz (onC (σ 0 9)) (σ 18) (σ 10)))
      rw [e, e, e, e']; exact b4
    · show WyE (bk h k (ifz (onC (σ 0 9)) (σ 16) (σ 8)) (ifz (onC (σ 0 9)) (σ 17) (σ 9)) (ifz (onC (σ 0 9)) (σ 18) (σ 10))) (ifz (onC (σ 0 9)) _ (σ 21)) (ifz (onC (σ 0 9)) _ (σ 22)) (ifz (onC (σ 0 9)) _ (σ 23)) (ifz (onC (σ 0 9)) _ (σ 24))
      rw [e, e, e, e, e, e, e]; exact b5
  · have cc : onC (σ 0 9) = 0 := by rw [hK.1]; exact if_neg f
    have ct : onC (τ 0 4) = 0 := if_neg f
    have e : ∀ {α : Type} (a b : α), ifz (onC (σ 0 9)) a b = a := fun a b => if_pos cc
    have e' : ∀ {α : Type} (a b : α), ifz (onC (τ 0 4)) a b = a := fun a b => if_pos ct
    refine ⟨h2, k2, h2, k2, n, z, ⟨?_, ?_, ?_, ?_, ?_⟩, hK, hL, hR, ⟨hx, hX.2⟩⟩
    · show ifz (onC (σ 0 9)) (nI h2) (σ 7 3) = nI h2
      rw [e]
    · show ifz (onC (σ 0 9)) (nI k2) (σ 7 4) = nI k2
      rw [e]
    · show GB (bk h2 k2 (ifz (onC (σ 0 9)) (σ 16) (σ 8)) (ifz (onC (σ 0 9)) (σ 17) (σ 9)) (ifz (onC (σ 0 9)) (σ 18) (σ 10)))
      rw [e, e, e]; exact hK.2.2.2.1
    · show RB (ifz (onC (τ 0 4)) (τ 3) (τ 2)) (bk h2 k2 (ifz (onC (σ 0 9)) (σ 16) (σ 8)) (ifz (onC (σ 0 9)) (σ 17) (σ 9)) (ifz (onC (σ 0 9)) (σ 18) (σ 10)))
      rw [e, e, e, e']; exact hK.2.2.2.2 f
    · show WyE (bk h2 k2 (ifz (onC (σ 0 9)) (σ 16) (σ 8)) (ifz (onC (σ 0 9)) (σ 17) (σ 9)) (ifz (onC (σ 0 9)) (σ 18) (σ 10))) (ifz (onC (σ 0 9)) _ (σ 21)) (ifz (onC (σ 0 9)) _ (σ 22)) (ifz (onC (σ 0 9)) _ (σ 23)) (ifz (onC (σ 0 9)) _ (σ 24))
      rw [e, e, e, e, e, e, e]
      exact fun x hx => ⟨cpyF_in _ _ hx, cpyF_in _ _ hx, cpyF_in _ _ hx, cpyF_in _ _ hx⟩
theorem on_ans {σ τ : Nat → Nat → Int32} {h2 k2 : Nat} (hK : IVK σ τ h2 k2) : rfA (onC (σ 0 9)) (nI k2) = rfA (onC (τ 0 4)) ((τ 3) 1) := by
  rw [hK.1]
  by_cases f : τ 0 4 = 0
  · rw [f]; rfl
  · have := (hK.2.2.2.2 f).2.1
    rw [this]; rfl
theorem inv_inn {σ τ : Nat → Nat → Int32} {h k h2 k2 n z : Nat} (hB : IVB σ τ h k) (hK : IVK σ τ h2 k2) (hL : IVL σ τ n) (hR : IVR σ τ z) (hX : IVX σ τ) (w y : Nat → Nat → Int32) :
    INV (ua (ua (ua (ua (ua (ua (ua (ua (ua (ua (ua (ua (ua (ua (ua σ 1 (upd (σ 1) 1 0)) 5 (upd (upd (σ 5) 2 (w 5 2)) 3 (w 5 3))) 6 (w 6)) 7 (upd (upd (σ 7) 3 (nI (bH (rdR (σ 2) n (τ 6) (τ 2) (bk h k (σ 8) (σ 9) (σ 10))).2.2))) 4 (nI (bK (rdR (σ 2) n (τ 6) (τ 2) (bk h k (σ 8) (σ 9) (σ 10))).2.2)))) 8 (bC (rdR (σ 2) n (τ 6) (τ 2) (bk h k (σ 8) (σ 9) (σ 10))).2.2)) 9 (bN (rdR (σ 2) n (τ 6) (τ 2) (bk h k (σ 8) (σ 9) (σ 10))).2.2)) 10 (bF (rdR (σ 2) n (τ 6) (τ 2) (bk h k (σ 8) (σ 9) (σ 10))).2.2)) 11 (upd (upd (σ 11) 3 (w 11 3)) 4 (w 11 4))) 12 (w 12)) 13 (w 13)) 14 (w 14)) 21 (inW (rdOk (σ 2) n (τ 6) (τ 2) (bk h k (σ 8) (σ 9) (σ 10))) wyM (rdR (σ 2) n (τ 6) (τ 2) (bk h k (σ 8) (σ 9) (σ 10))).2.2 (σ 21))) 22 (inW (rdOk (σ 2) n (τ 6) (τ 2) (bk h k (σ 8) (σ 9) (σ 10))) wyF (rdR (σ 2) n (τ 6) (τ 2) (bk h k (σ 8) (σ 9) (σ 10))).2.2 (σ 22))) 23 (inW (rdOk (σ 2) n (τ 6) (τ 2) (bk h k (σ 8) (σ 9) (σ 10))) wyW (rdR (σ 2) n (τ 6) (τ 2) (bk h k (σ 8) (σ 9) (σ 10))).2.2 (σ 23))) 24 (inW (rdOk (σ 2) n (τ 6) (τ 2) (bk h k (σ 8) (σ 9) (σ 10))) wyO (rdR (σ 2) n (τ 6) (τ 2) (bk h k (σ 8) (σ 9) (σ 10))).2.2 (σ 24)))
      (ua (ua (ua (ua τ 0 (upd (upd (τ 0) 7 0) 8 (y 0 8))) 2 ((rdR (τ 5) n (τ 6) (τ 2) (bk h k (σ 8) (σ 9) (σ 10))).2.1)) 4 (y 4)) 6 (y 6)) := by
  obtain ⟨b1, b2, b3, b4, b5⟩ := hB
  obtain ⟨l1, l2, l3, l4, l5⟩ := hL
  rw [← l4]
  refine ⟨_, _, h2, k2, 0, z, ⟨rfl, rfl, ?_, ?_, ?_⟩, hK, ⟨rfl, rfl, by omega, l4, fun j hj => absurd hj (Nat.not_lt_zero _)⟩, hR, hX⟩
  · exact (rdR_GB b3 : GB (rdR (σ 2) n (τ 6) (τ 2) (bk h k (σ 8) (σ 9) (σ 10))).2.2)
  · exact (rdR_RB b4 : RB (rdR (σ 2) n (τ 6) (τ 2) (bk h k (σ 8) (σ 9) (σ 10))).2.1 (rdR (σ 2) n (τ 6) (τ 2) (bk h k (σ 8) (σ 9) (σ 10))).2.2)
  · exact (in_WyE b5 : WyE (rdR (σ 2) n (τ 6) (τ 2) (bk h k (σ 8) (σ 9) (σ 10))).2.2 _ _ _ _)
/-- the start -/
theorem inv_0 : INV sC0 sM0 := by
  have ff : ∀ j, j < 4 → (upd (upd (upd (upd (fun _ => 0) 0 50) 1 50) 2 50) 3 50 : Nat → Int32) j = 50 := by
    intro j hj
    match j, hj with
    | 0, _ => rfl
    | 1, _ => rfl
    | 2, _ => rfl
    | 3, _ => rfl
    | j + 4, hj => exact absurd hj (by omega)
  have g0 : ∀ F : Nat → Int32, (∀ j, j < 4 → F j = 50) → GB (bk 0 0 (fun _ => 0) (fun _ => 0) F) := by
    intro F hF
    refine ⟨Nat.zero_le _, Nat.zero_le _, fun j hj => absurd hj (Nat.not_lt_zero _), fun j hj => absurd hj (Nat.not_lt_zero _), fun j hj => absurd hj (Nat.not_lt_zero _), fun j hj => ?_⟩
    rw [show bF (bk 0 0 (fun _ => 0) (fun _ => 0) F) j = 50 from hF j hj]
    decide
  refine ⟨0, 0, 0, 0, 0, 0, ⟨rfl, rfl, g0 _ ff, ⟨rfl, rfl, by decide, by decide, fun j hj => ?_, fun j hj => ?_, fun j hj => ?_⟩, fun e he => ?_⟩, ⟨rfl, rfl, rfl, g0 _ ff, fun z => absurd rfl z⟩, ⟨rfl, rfl, by decide, rfl, fun j hj => absurd hj (Nat.not_lt_zero _)⟩, ⟨rfl, rfl, by decide, rfl⟩, ⟨rfl, rfl⟩⟩
  · show upd (upd (upd (upd (fun _ => 0) 6 50) 7 50) 8 50) 9 50 (2 + j) = (0 : Int32)
    rw [pk_un (by omega), pk_un (by omega), pk_un (by omega), pk_un (by omega)]
  · show upd (upd (upd (upd (fun _ => 0) 6 50) 7 50) 8 50) 9 50 (6 + j) = upd (upd (upd (upd (fun _ => 0) 0 50) 1 50) 2 50) 3 50 j
    rw [ff j hj]
    match j, hj with
    | 0, _ => rfl
    | 1, _ => rfl
    | 2, _ => rfl
    | 3, _ => rfl
    | j + 4, hj => exact absurd hj (by omega)
  · show upd (upd (upd (upd (fun _ => 0) 6 50) 7 50) 8 50) 9 50 (10 + j) = (0 : Int32)
    rw [pk_un (by omega), pk_un (by omega), pk_un (by omega), pk_un (by omega)]
  · have he : e < 1 := he
    have e0 : e = 0 := by omega
    subst e0
    have w : isWayP (bk 0 0 (sC0 8) (sC0 9) (sC0 10)) (nI 0) (nI 0) := fun j hj => absurd hj (Nat.not_lt_zero _)
    have f : fwA (bk 0 0 (sC0 8) (sC0 9) (sC0 10)) (nI 0) = fw (bk 0 0 (sC0 8) (sC0 9) (sC0 10)) (nI 0) (0 + 1) := rfl
    unfold wyM wyF wyW wyO
    rw [f, fw_t w]
    exact ⟨by decide, by decide, by decide, by decide⟩
