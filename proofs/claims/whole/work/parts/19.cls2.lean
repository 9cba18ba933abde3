/-! the class: kinds, Ways -/
def KD (N : Nat → Int32) (k : Nat) : Prop := ∀ j, j < k → N (7 * j + 0) = 0 ∨ N (7 * j + 0) = 1 ∨ N (7 * j + 0) = 2 ∨ N (7 * j + 0) = 3 ∨ N (7 * j + 0) = 4 ∨ N (7 * j + 0) = 5
theorem wonB_c0 {β : Bk} {j : Nat} {e w : Int32} (h : nm β j 0 = 0) : soP (nm β j 1) e w ↔ wonB β j e w := by unfold wonB; rw [h]; exact Iff.rfl
theorem wonB_c1 {β : Bk} {j : Nat} {e w : Int32} (h : nm β j 0 = 1) : ¬ soP (nm β j 1) e w ↔ wonB β j e w := by unfold wonB; rw [h]; exact Iff.rfl
theorem wonB_c2 {β : Bk} {j : Nat} {e w : Int32} (h : nm β j 0 = 2) : (soP (nm β j 1) e w ∧ soP (nm β j 2) e w) ↔ wonB β j e w := by unfold wonB; rw [h]; exact Iff.rfl
theorem wonB_c3 {β : Bk} {j : Nat} {e w : Int32} (h : nm β j 0 = 3) : (soP (nm β j 1) e w ∨ soP (nm β j 2) e w) ↔ wonB β j e w := by unfold wonB; rw [h]; exact Iff.rfl
theorem wonB_c4 {β : Bk} {j : Nat} {e w : Int32} (h : nm β j 0 = 4) : ¬ (soP (nm β j 1) e w ↔ soP (nm β j 2) e w) ↔ wonB β j e w := by unfold wonB; rw [h]; exact Iff.rfl
theorem wonB_c5 {β : Bk} {j : Nat} {e w : Int32} (h : nm β j 0 = 5) : (¬ soP (nm β j 1) e w ∧ ¬ soP (nm β j 2) e w) ↔ wonB β j e w := by unfold wonB; rw [h]; exact Iff.rfl
theorem soP_lt {m e w : Int32} (h : m < 10) : tb e m ↔ soP m e w := ⟨fun z => Or.inl ⟨Int32.not_le.mpr h, z⟩, fun z => z.elim (fun q => q.2) (fun q => absurd q.1 (Int32.not_le.mpr h))⟩
theorem soP_ge {m e w : Int32} (h : ¬ m < 10) : tb w (m - 10) ↔ soP m e w := ⟨fun z => Or.inr ⟨Int32.not_lt.mp h, z⟩, fun z => z.elim (fun q => absurd (Int32.not_lt.mp h) q.1) (fun q => q.2)⟩
theorem fw_inv (β : Bk) (e : Int32) : ∀ i, i ≤ 64 → ∃ c, c ≤ i ∧ (fw β e i).1 = nI c ∧ (c = 0 → (fw β e i).2.1 = -9) ∧ (0 < c → 0 ≤ (fw β e i).2.1) := by
  intro i
  induction i with
  | zero => intro _; exact ⟨0, Nat.le_refl 0, rfl, fun _ => rfl, fun h => absurd h (by omega)⟩
  | succ i ih =>
    intro hi
    obtain ⟨c, h1, h2, h3, h4⟩ := ih (by omega)
    by_cases q : isWayP β e (nI i)
    · rw [fw_t q]
      refine ⟨c + 1, by omega, by show (fw β e i).1 + 1 = _; rw [h2, nI_1], fun z => absurd z (by omega), fun _ => ?_⟩
      show 0 ≤ (if 0 ≤ (fw β e i).2.1 then (fw β e i).2.1 else nI i)
      split
      · rename_i z; exact z
      · exact nI_pos' (by omega)
    · rw [fw_f q]
      exact ⟨c, by omega, h2, h3, h4⟩
theorem fw_z {β : Bk} {e : Int32} {i : Nat} (hi : i ≤ 64) (h : (fw β e i).1 = 0) : ¬ 0 ≤ (fw β e i).2.1 := by
  obtain ⟨c, h1, h2, h3, h4⟩ := fw_inv β e i hi
  rw [h3 ((nI_eq (a := c) (b := 0) (by omega) (by omega)).mp (h2.symm.trans h))]
  decide
theorem fw_nz {β : Bk} {e : Int32} {i : Nat} (hi : i ≤ 64) (h : ¬ (fw β e i).1 = 0) : 0 ≤ (fw β e i).2.1 := by
  obtain ⟨c, h1, h2, h3, h4⟩ := fw_inv β e i hi
  exact h4 (Nat.pos_of_ne_zero (fun z => h (by rw [h2, z]; rfl)))
def wonF (s : Int32 × Int32 × Int32 × Int32) : Int32 := if 0 < s.1 then s.2.2.2 else 0
def opF (s : Int32 × Int32 × Int32 × Int32) (ev : Int32) : Int32 := if 0 < s.1 then s.2.2.1 - s.2.2.2 else ev
noncomputable def wyM (β : Bk) (j : Nat) : Int32 := (fwA β (nI j)).1
noncomputable def wyF (β : Bk) (j : Nat) : Int32 := (fwA β (nI j)).2.1
noncomputable def wyW (β : Bk) (j : Nat) : Int32 := wonF (fwA β (nI j))
noncomputable def wyO (β : Bk) (j : Nat) : Int32 := opF (fwA β (nI j)) (nI (2 ^ bK β) - 1)
noncomputable def stW (won opn b : Int32) : Int32 := cI (tb won b) 1 (cI (tb opn b) 2 0)
noncomputable def bbF (k : Nat) (m : Int32) : Int32 := cI (inb (m - 10) k) ((1 : Int32) <<< ((m - 10) &&& 31)) 0
noncomputable def laF (β : Bk) (b : Nat) : Int32 := if nm β b 0 = 0 ∨ nm β b 0 = 1 then bbF (bK β) (nm β b 1) else bbF (bK β) (nm β b 1) ||| bbF (bK β) (nm β b 2)
set_option maxHeartbeats 4000000 in
set_option maxRecDepth 100000 in
theorem k_X7_isWonBy (l : Launch) (G : GP) (ad : Nat → Nat) (σ : Nat → Nat → Int32) (f : Prop) (s : Prop) : CT l G yX7_isWonBy cX7_isWonBy 3 (some .boolean) 0 [.ref (ad 0), .int (bI f), .int (bI s)] (WKX7 G ad σ) (some (.int (bI f))) (WKX7 G ad σ) := by
  refine x_meth "BetsOnBets$Plain" rfl (by decide +kernel) (by rfl) (Nat.le_of_ble_eq_true rfl) ?_
  intro pP eE sS mM args below meth cC A ls hC hr hkL hK hZ hA hH hl
  have hx := hC.1
  have hb := hC.2.1
  have hl : lv_has ls 3 [(0, .ref (ad 0)), (1, .int (bI (f))), (2, .int (bI (s)))] := hl
  refine lv_iload_n hx hb dX7_isWonBy_0 rfl (lv_at hl 1 rfl) ?_
  exact x_zret hC hr hkL hH nar_bI rfl rfl dX7_isWonBy_1
set_option maxHeartbeats 4000000 in
set_option maxRecDepth 100000 in
theorem k_X0_isWonBy (l : Launch) (G : GP) (ad : Nat → Nat) (σ : Nat → Nat → Int32) (f : Prop) (s : Prop) : CT l G yX0_isWonBy cX0_isWonBy 3 (some .boolean) 0 [.ref (ad 0), .int (bI f), .int (bI s)] (WKX0 G ad σ) (some (.int (bI (¬ f)))) (WKX0 G ad σ) := by
  refine x_meth "BetsOnBets$Against" rfl (by decide +kernel) (by rfl) (Nat.le_of_ble_eq_true rfl) ?_
  intro pP eE sS mM args below meth cC A ls hC hr hkL hK hZ hA hH hl
  have hx := hC.1
  have hb := hC.2.1
  have hl : lv_has ls 3 [(0, .ref (ad 0)), (1, .int (bI (f))), (2, .int (bI (s)))] := hl
  refine lv_iload_n hx hb dX0_isWonBy_0 rfl (lv_at hl 1 rfl) ?_
  refine x_bne (tgt := 8) hC dX0_isWonBy_1 (by decide) (fun c1 => ?_) (fun c1 => ?_)
  · refine lv_iconst (v := 0) hx hb dX0_isWonBy_8 (by decide) ?_
    exact x_zret hC hr hkL hH nar_bI (bI_f (by exact fun z => z c1)) rfl dX0_isWonBy_9
  · refine lv_iconst (v := 1) hx hb dX0_isWonBy_4 (by decide) ?_
    refine lv_goto (tgt := 9) hx hb dX0_isWonBy_5 (by decide) ?_
    exact x_zret hC hr hkL hH nar_bI (bI_t (by exact c1)) rfl dX0_isWonBy_9
set_option maxHeartbeats 4000000 in
set_option maxRecDepth 100000 in
theorem k_X3_isWonBy (l : Launch) (G : GP) (ad : Nat → Nat) (σ : Nat → Nat → Int32) (f : Prop) (s : Prop) : CT l G yX3_isWonBy cX3_isWonBy 3 (some .boolean) 0 [.ref (ad 0), .int (bI f), .int (bI s)] (WKX3 G ad σ) (some (.int (bI (f ∧ s)))) (WKX3 G ad σ) := by
  refine x_meth "BetsOnBets$Both" rfl (by decide +kernel) (by rfl) (Nat.le_of_ble_eq_true rfl) ?_
  intro pP eE sS mM args below meth cC A ls hC hr hkL hK hZ hA hH hl
  have hx := hC.1
  have hb := hC.2.1
  have hl : lv_has ls 3 [(0, .ref (ad 0)), (1, .int (bI (f))), (2, .int (bI (s)))] := hl
  refine lv_iload_n hx hb dX3_isWonBy_0 rfl (lv_at hl 1 rfl) ?_
  refine x_beq (tgt := 12) hC dX3_isWonBy_1 (by decide) (fun c1 => ?_) (fun c1 => ?_)
  · refine lv_iconst (v := 0) hx hb dX3_isWonBy_12 (by decide) ?_
    exact x_zret hC hr hkL hH nar_bI (bI_f (by first | exact fun z => c1 z.1 | exact fun z => c5 z.2)) rfl dX3_isWonBy_13
  · refine lv_iload_n hx hb dX3_isWonBy_4 rfl (lv_at hl 2 rfl) ?_
    refine x_beq (tgt := 12) hC dX3_isWonBy_5 (by decide) (fun c5 => ?_) (fun c5 => ?_)
    · refine lv_iconst (v := 0) hx hb dX3_isWonBy_12 (by decide) ?_
      exact x_zret hC hr hkL hH nar_bI (bI_f (by first | exact fun z => c1 z.1 | exact fun z => c5 z.2)) rfl dX3_isWonBy_13
    · refine lv_iconst (v := 1) hx hb dX3_isWonBy_8 (by decide) ?_
      refine lv_goto (tgt := 13) hx hb dX3_isWonBy_9 (by decide) ?_
      exact x_zret hC hr hkL hH nar_bI (bI_t (by exact ⟨c1, c5⟩)) rfl dX3_isWonBy_13
set_option maxHeartbeats 4000000 in
set_option maxRecDepth 100000 in
theorem k_X4_isWonBy (l : Launch) (G : GP) (ad : Nat → Nat) (σ : Nat → Nat → Int32) (f : Prop) (s : Prop) : CT l G yX4_isWonBy cX4_isWonBy 3 (some .boolean) 0 [.ref (ad 0), .int (bI f), .int (bI s)] (WKX4 G ad σ) (some (.int (bI (f ∨ s)))) (WKX4 G ad σ) := by
  refine x_meth "BetsOnBets$Either" rfl (by decide +kernel) (by rfl) (Nat.le_of_ble_eq_true rfl) ?_
  intro pP eE sS mM args below meth cC A ls hC hr hkL hK hZ hA hH hl
  have hx := hC.1
  have hb := hC.2.1
  have hl : lv_has ls 3 [(0, .ref (ad 0)), (1, .int (bI (f))), (2, .int (bI (s)))] := hl
  refine lv_iload_n hx hb dX4_isWonBy_0 rfl (lv_at hl 1 rfl) ?_
  refine x_bne (tgt := 8) hC dX4_isWonBy_1 (by decide) (fun c1 => ?_) (fun c1 => ?_)
  · refine lv_iconst (v := 1) hx hb dX4_isWonBy_8 (by decide) ?_
    refine lv_goto (tgt := 13) hx hb dX4_isWonBy_9 (by decide) ?_
    exact x_zret hC hr hkL hH nar_bI (bI_t (by first | exact Or.inl c1 | exact Or.inr c5)) rfl dX4_isWonBy_13
  · refine lv_iload_n hx hb dX4_isWonBy_4 rfl (lv_at hl 2 rfl) ?_
    refine x_beq (tgt := 12) hC dX4_isWonBy_5 (by decide) (fun c5 => ?_) (fun c5 => ?_)
    · refine lv_iconst (v := 0) hx hb dX4_isWonBy_12 (by decide) ?_
      exact x_zret hC hr hkL hH nar_bI (bI_f (by exact fun z => z.elim c1 c5)) rfl dX4_isWonBy_13
    · refine lv_iconst (v := 1) hx hb dX4_isWonBy_8 (by decide) ?_
      refine lv_goto (tgt := 13) hx hb dX4_isWonBy_9 (by decide) ?_
      exact x_zret hC hr hkL hH nar_bI (bI_t (by first | exact Or.inl c1 | exact Or.inr c5)) rfl dX4_isWonBy_13
set_option maxHeartbeats 4000000 in
set_option maxRecDepth 100000 in
theorem k_X6_isWonBy (l : Launch) (G : GP) (ad : Nat → Nat) (σ : Nat → Nat → Int32) (f : Prop) (s : Prop) : CT l G yX6_isWonBy cX6_isWonBy 3 (some .boolean) 0 [.ref (ad 0), .int (bI f), .int (bI s)] (WKX6 G ad σ) (some (.int (bI (¬ (f ↔ s))))) (WKX6 G ad σ) := by
  refine x_meth "BetsOnBets$One" rfl (by decide +kernel) (by rfl) (Nat.le_of_ble_eq_true rfl) ?_
  intro pP eE sS mM args below meth cC A ls hC hr hkL hK hZ hA hH hl
  have hx := hC.1
  have hb := hC.2.1
  have hl : lv_has ls 3 [(0, .ref (ad 0)), (1, .int (bI (f))), (2, .int (bI (s)))] := hl
  refine lv_iload_n hx hb dX6_isWonBy_0 rfl (lv_at hl 1 rfl) ?_
  refine lv_iload_n hx hb dX6_isWonBy_1 rfl (lv_at hl 2 rfl) ?_
  refine lv_icmp_eq (tgt := 9) hx hb dX6_isWonBy_2 (by decide) (fun c2 => ?_) (fun c2 => ?_)
  · refine lv_iconst (v := 0) hx hb dX6_isWonBy_9 (by decide) ?_
    exact x_zret hC hr hkL hH nar_bI (bI_f (by exact fun z => z (bI_inj.mp c2))) rfl dX6_isWonBy_10
  · refine lv_iconst (v := 1) hx hb dX6_isWonBy_5 (by decide) ?_
    refine lv_goto (tgt := 10) hx hb dX6_isWonBy_6 (by decide) ?_
    exact x_zret hC hr hkL hH nar_bI (bI_t (by exact fun z => c2 (bI_inj.mpr z))) rfl dX6_isWonBy_10
set_option maxHeartbeats 4000000 in
set_option maxRecDepth 100000 in
theorem k_X5_isWonBy (l : Launch) (G : GP) (ad : Nat → Nat) (σ : Nat → Nat → Int32) (f : Prop) (s : Prop) : CT l G yX5_isWonBy cX5_isWonBy 3 (some .boolean) 0 [.ref (ad 0), .int (bI f), .int (bI s)] (WKX5 G ad σ) (some (.int (bI (¬ f ∧ ¬ s)))) (WKX5 G ad σ) := by
  refine x_meth "BetsOnBets$Neither" rfl (by decide +kernel) (by rfl) (Nat.le_of_ble_eq_true rfl) ?_
  intro pP eE sS mM args below meth cC A ls hC hr hkL hK hZ hA hH hl
  have hx := hC.1
  have hb := hC.2.1
  have hl : lv_has ls 3 [(0, .ref (ad 0)), (1, .int (bI (f))), (2, .int (bI (s)))] := hl
  refine lv_iload_n hx hb dX5_isWonBy_0 rfl (lv_at hl 1 rfl) ?_
  refine x_bne (tgt := 12) hC dX5_isWonBy_1 (by decide) (fun c1 => ?_) (fun c1 => ?_)
  · refine lv_iconst (v := 0) hx hb dX5_isWonBy_12 (by decide) ?_
    exact x_zret hC hr hkL hH nar_bI (bI_f (by first | exact fun z => z.1 c1 | exact fun z => z.2 c5)) rfl dX5_isWonBy_13
  · refine lv_iload_n hx hb dX5_isWonBy_4 rfl (lv_at hl 2 rfl) ?_
    refine x_bne (tgt := 12) hC dX5_isWonBy_5 (by decide) (fun c5 => ?_) (fun c5 => ?_)
    · refine lv_iconst (v := 0) hx hb dX5_isWonBy_12 (by decide) ?_
      exact x_zret hC hr hkL hH nar_bI (bI_f (by first | exact fun z => z.1 c1 | exact fun z => z.2 c5)) rfl dX5_isWonBy_13
    · refine lv_iconst (v := 1) hx hb dX5_isWonBy_8 (by decide) ?_
      refine lv_goto (tgt := 13) hx hb dX5_isWonBy_9 (by decide) ?_
      exact x_zret hC hr hkL hH nar_bI (bI_t (by exact ⟨c1, c5⟩)) rfl dX5_isWonBy_13
set_option maxHeartbeats 4000000 in
set_option maxRecDepth 100000 in
theorem k_X7_looksAtBoth (l : Launch) (G : GP) (ad : Nat → Nat) (σ : Nat → Nat → Int32) : CT l G yX7_looksAtBoth cX7_looksAtBoth 1 (some .boolean) 0 [.ref (ad 0)] (WKX7 G ad σ) (some (.int (bI False))) (WKX7 G ad σ) := by
  refine x_meth "BetsOnBets$Plain" rfl (by decide +kernel) (by rfl) (Nat.le_of_ble_eq_true rfl) ?_
  intro pP eE sS mM args below meth cC A ls hC hr hkL hK hZ hA hH hl
  have hx := hC.1
  have hb := hC.2.1
  have hl : lv_has ls 1 [(0, .ref (ad 0))] := hl
  refine lv_iconst (v := 0) hx hb dX7_looksAtBoth_0 (by decide) ?_
  exact x_zret hC hr hkL hH nar_bI (bI_f (by exact fun z => z)) rfl dX7_looksAtBoth_1
set_option maxHeartbeats 4000000 in
set_option maxRecDepth 100000 in
theorem k_X7_looksAtBoth_X0 (l : Launch) (G : GP) (ad : Nat → Nat) (σ : Nat → Nat → Int32) : CT l G yX7_looksAtBoth cX7_looksAtBoth 1 (some .boolean) 0 [.ref (ad 0)] (WKX0 G ad σ) (some (.int (bI False))) (WKX0 G ad σ) := by
  refine x_meth "BetsOnBets$Plain" rfl (by decide +kernel) (by rfl) (Nat.le_of_ble_eq_true rfl) ?_
  intro pP eE sS mM args below meth cC A ls hC hr hkL hK hZ hA hH hl
  have hx := hC.1
  have hb := hC.2.1
  have hl : lv_has ls 1 [(0, .ref (ad 0))] := hl
  refine lv_iconst (v := 0) hx hb dX7_looksAtBoth_0 (by decide) ?_
  exact x_zret hC hr hkL hH nar_bI (bI_f (by exact fun z => z)) rfl dX7_looksAtBoth_1
set_option maxHeartbeats 4000000 in
set_option maxRecDepth 100000 in
theorem k_X3_looksAtBoth (l : Launch) (G : GP) (ad : Nat → Nat) (σ : Nat → Nat → Int32) : CT l G yX3_looksAtBoth cX3_looksAtBoth 1 (some .boolean) 0 [.ref (ad 0)] (WKX3 G ad σ) (some (.int (bI True))) (WKX3 G ad σ) := by
  refine x_meth "BetsOnBets$Both" rfl (by decide +kernel) (by rfl) (Nat.le_of_ble_eq_true rfl) ?_
  intro pP eE sS mM args below meth cC A ls hC hr hkL hK hZ hA hH hl
  have hx := hC.1
  have hb := hC.2.1
  have hl : lv_has ls 1 [(0, .ref (ad 0))] := hl
  refine lv_iconst (v := 1) hx hb dX3_looksAtBoth_0 (by decide) ?_
  exact x_zret hC hr hkL hH nar_bI (bI_t (by exact trivial)) rfl dX3_looksAtBoth_1
set_option maxHeartbeats 4000000 in
set_option maxRecDepth 100000 in
theorem k_X1_looksAtBoth_X4 (l : Launch) (G : GP) (ad : Nat → Nat) (σ : Nat → Nat → Int32) : CT l G yX1_looksAtBoth cX1_looksAtBoth 1 (some .boolean) 0 [.ref (ad 0)] (WKX4 G ad σ) (some (.int (bI True))) (WKX4 G ad σ) := by
  refine x_meth "BetsOnBets$Bet" rfl (by decide +kernel) (by rfl) (Nat.le_of_ble_eq_true rfl) ?_
  intro pP eE sS mM args below meth cC A ls hC hr hkL hK hZ hA hH hl
  have hx := hC.1
  have hb := hC.2.1
  have hl : lv_has ls 1 [(0, .ref (ad 0))] := hl
  refine lv_iconst (v := 1) hx hb dX1_looksAtBoth_0 (by decide) ?_
  exact x_zret hC hr hkL hH nar_bI (bI_t (by exact trivial)) rfl dX1_looksAtBoth_1
set_option maxHeartbeats 4000000 in
set_option maxRecDepth 100000 in
theorem k_X1_looksAtBoth_X6 (l : Launch) (G : GP) (ad : Nat → Nat) (σ : Nat → Nat → Int32) : CT l G yX1_looksAtBoth cX1_looksAtBoth 1 (some .boolean) 0 [.ref (ad 0)] (WKX6 G ad σ) (some (.int (bI True))) (WKX6 G ad σ) := by
  refine x_meth "BetsOnBets$Bet" rfl (by decide +kernel) (by rfl) (Nat.le_of_ble_eq_true rfl) ?_
  intro pP eE sS mM args below meth cC A ls hC hr hkL hK hZ hA hH hl
  have hx := hC.1
  have hb := hC.2.1
  have hl : lv_has ls 1 [(0, .ref (ad 0))] := hl
  refine lv_iconst (v := 1) hx hb dX1_looksAtBoth_0 (by decide) ?_
  exact x_zret hC hr hkL hH nar_bI (bI_t (by exact trivial)) rfl dX1_looksAtBoth_1
set_option maxHeartbeats 4000000 in
set_option maxRecDepth 100000 in
theorem k_X1_looksAtBoth_X5 (l : Launch) (G : GP) (ad : Nat → Nat) (σ : Nat → Nat → Int32) : CT l G yX1_looksAtBoth cX1_looksAtBoth 1 (some .boolean) 0 [.ref (ad 0)] (WKX5 G ad σ) (some (.int (bI True))) (WKX5 G ad σ) := by
  refine x_meth "BetsOnBets$Bet" rfl (by decide +kernel) (by rfl) (Nat.le_of_ble_eq_true rfl) ?_
  intro pP eE sS mM args below meth cC A ls hC hr hkL hK hZ hA hH hl
  have hx := hC.1
  have hb := hC.2.1
  have hl : lv_has ls 1 [(0, .ref (ad 0))] := hl
  refine lv_iconst (v := 1) hx hb dX1_looksAtBoth_0 (by decide) ?_
  exact x_zret hC hr hkL hH nar_bI (bI_t (by exact trivial)) rfl dX1_looksAtBoth_1
set_option maxHeartbeats 4000000 in
set_option maxRecDepth 100000 in
theorem k_X10_isSo (l : Launch) (G : GP) (ad : Nat → Nat) (σ : Nat → Nat → Int32) (k : Int32) (e : Int32) (w : Int32) : CT l G yX10_isSo cX10_isSo 3 (some .boolean) 1 [.int k, .int e, .int w] (WE G ad σ) (some (.int (bI (soP k e w)))) (WE G ad σ) := by
  refine x_meth "BetsOnBets$Ways" rfl (by decide +kernel) (by rfl) (Nat.le_of_ble_eq_true rfl) ?_
  intro pP eE sS mM args below meth cC A ls hC hr hkL hK hZ hA hH hl
  have hx := hC.1
  have hb := hC.2.1
  have hl : lv_has ls 3 [(0, .int k), (1, .int e), (2, .int w)] := hl
  refine lv_iload_n hx hb dX10_isSo_0 rfl (lv_at hl 0 rfl) ?_
  refine lv_bipush (v := 10) hx hb dX10_isSo_1 (by decide) ?_
  refine lv_icmp_lt (tgt := 17) hx hb dX10_isSo_3 (by decide) (fun c3 => ?_) (fun c3 => ?_)
  · refine lv_iload_n hx hb dX10_isSo_17 rfl (lv_at hl 1 rfl) ?_
    refine lv_iload_n hx hb dX10_isSo_18 rfl (lv_at hl 0 rfl) ?_
    refine x_callN (ws' := WE G ad σ) (As := [.int e, .int k]) (rest := []) (st' := [.int (bI (tb e k))]) hC hK hZ hA hl.1 hH (k_X11_has l G (pk ad []) (pk σ []) e k) lk_X10_86 [] rfl rfl rfl rfl ⟨Nat.le_of_ble_eq_true rfl, Nat.le_of_ble_eq_true rfl⟩ ⟨Nat.le_refl _, Nat.le_refl _⟩ (Nat.le_of_ble_eq_true rfl) rfl dX10_isSo_19 (fun H locs hH => ?_)
    exact x_zret hC hr hkL hH nar_bI (bI_e (by first | exact (soP_lt c3).symm | exact (soP_ge c3).symm)) rfl dX10_isSo_22
  · refine lv_iload_n hx hb dX10_isSo_6 rfl (lv_at hl 2 rfl) ?_
    refine lv_iload_n hx hb dX10_isSo_7 rfl (lv_at hl 0 rfl) ?_
    refine lv_bipush (v := 10) hx hb dX10_isSo_8 (by decide) ?_
    refine lv_isub hx hb dX10_isSo_10 ?_
    refine x_callN (ws' := WE G ad σ) (As := [.int w, .int (k - 10)]) (rest := []) (st' := [.int (bI (tb w (k - 10)))]) hC hK hZ hA hl.1 hH (k_X11_has l G (pk ad []) (pk σ []) w (k - 10)) lk_X10_86 [] rfl rfl rfl rfl ⟨Nat.le_of_ble_eq_true rfl, Nat.le_of_ble_eq_true rfl⟩ ⟨Nat.le_refl _, Nat.le_refl _⟩ (Nat.le_of_ble_eq_true rfl) rfl dX10_isSo_11 (fun H locs hH => ?_)
    refine lv_goto (tgt := 22) hx hb dX10_isSo_14 (by decide) ?_
    exact x_zret hC hr hkL hH nar_bI (bI_e (by first | exact (soP_lt c3).symm | exact (soP_ge c3).symm)) rfl dX10_isSo_22
set_option maxHeartbeats 4000000 in
set_option maxRecDepth 100000 in
theorem k_X10_kindOf_0 (l : Launch) (G : GP) (ad : Nat → Nat) (σ : Nat → Nat → Int32) (q : Int32) (hq : q = 0) : CT l G yX10_kindOf cX10_kindOf 2 (some (.object "BetsOnBets$Bet")) 0 [.ref (ad 0), .int q] (WWY G ad σ) (some (.ref (ad 6))) (WWY G ad σ) := by
  refine x_meth "BetsOnBets$Ways" rfl (by decide +kernel) (by rfl) (Nat.le_of_ble_eq_true rfl) ?_
  intro pP eE sS mM args below meth cC A ls hC hr hkL hK hZ hA hH hl
  have hx := hC.1
  have hb := hC.2.1
  have hl : lv_has ls 2 [(0, .ref (ad 0)), (1, .int q)] := hl
  refine lv_iload_n hx hb dX10_kindOf_0 rfl (lv_at hl 1 rfl) ?_
  refine lv_if_lt (tgt := 22) hx hb dX10_kindOf_1 (by decide) (fun c1 => ?_) (fun c1 => ?_)
  · exact absurd c1 (by rw [hq]; decide)
  refine lv_iload_n hx hb dX10_kindOf_4 rfl (lv_at hl 1 rfl) ?_
  refine lv_aload_n hx hb dX10_kindOf_5 rfl (lv_at hl 0 rfl) ?_
  refine gf_X10_29 (v := .ref (ad 1)) hC hK hH 0 rfl rfl dX10_kindOf_6 ?_
  refine x_alenq hC hK hH 1 rfl (v := 6) rfl dX10_kindOf_9 ?_
  refine lv_icmp_ge (tgt := 22) hx hb dX10_kindOf_10 (by decide) (fun c10 => ?_) (fun c10 => ?_)
  · exact absurd c10 (by rw [hq]; decide)
  refine lv_aload_n hx hb dX10_kindOf_13 rfl (lv_at hl 0 rfl) ?_
  refine gf_X10_29 (v := .ref (ad 1)) hC hK hH 0 rfl rfl dX10_kindOf_14 ?_
  refine lv_iload_n hx hb dX10_kindOf_17 rfl (lv_at hl 1 rfl) ?_
  refine x_aalN hC hK hH 1 0 rfl hq (by decide) (Nat.le_of_ble_eq_true rfl) rfl dX10_kindOf_18 ?_
  refine lv_goto (tgt := 23) hx hb dX10_kindOf_19 (by decide) ?_
  exact x_aret hC hr (Or.inl ⟨_, rfl⟩) hkL hH rfl rfl dX10_kindOf_23
set_option maxHeartbeats 4000000 in
set_option maxRecDepth 100000 in
theorem k_X10_kindOf_1 (l : Launch) (G : GP) (ad : Nat → Nat) (σ : Nat → Nat → Int32) (q : Int32) (hq : q = 1) : CT l G yX10_kindOf cX10_kindOf 2 (some (.object "BetsOnBets$Bet")) 0 [.ref (ad 0), .int q] (WWY G ad σ) (some (.ref (ad 7))) (WWY G ad σ) := by
  refine x_meth "BetsOnBets$Ways" rfl (by decide +kernel) (by rfl) (Nat.le_of_ble_eq_true rfl) ?_
  intro pP eE sS mM args below meth cC A ls hC hr hkL hK hZ hA hH hl
  have hx := hC.1
  have hb := hC.2.1
  have hl : lv_has ls 2 [(0, .ref (ad 0)), (1, .int q)] := hl
  refine lv_iload_n hx hb dX10_kindOf_0 rfl (lv_at hl 1 rfl) ?_
  refine lv_if_lt (tgt := 22) hx hb dX10_kindOf_1 (by decide) (fun c1 => ?_) (fun c1 => ?_)
  · exact absurd c1 (by rw [hq]; decide)
  refine lv_iload_n hx hb dX10_kindOf_4 rfl (lv_at hl 1 rfl) ?_
  refine lv_aload_n hx hb dX10_kindOf_5 rfl (lv_at hl 0 rfl) ?_
  refine gf_X10_29 (v := .ref (ad 1)) hC hK hH 0 rfl rfl dX10_kindOf_6 ?_
  refine x_alenq hC hK hH 1 rfl (v := 6) rfl dX10_kindOf_9 ?_
  refine lv_icmp_ge (tgt := 22) hx hb dX10_kindOf_10 (by decide) (fun c10 => ?_) (fun c10 => ?_)
  · exact absurd c10 (by rw [hq]; decide)
  refine lv_aload_n hx hb dX10_kindOf_13 rfl (lv_at hl 0 rfl) ?_
  refine gf_X10_29 (v := .ref (ad 1)) hC hK hH 0 rfl rfl dX10_kindOf_14 ?_
  refine lv_iload_n hx hb dX10_kindOf_17 rfl (lv_at hl 1 rfl) ?_
  refine x_aalN hC hK hH 1 1 rfl hq (by decide) (Nat.le_of_ble_eq_true rfl) rfl dX10_kindOf_18 ?_
  refine lv_goto (tgt := 23) hx hb dX10_kindOf_19 (by decide) ?_
  exact x_aret hC hr (Or.inl ⟨_, rfl⟩) hkL hH rfl rfl dX10_kindOf_23
set_option maxHeartbeats 4000000 in
set_option maxRecDepth 100000 in
theorem k_X10_kindOf_2 (l : Launch) (G : GP) (ad : Nat → Nat) (σ : Nat → Nat → Int32) (q : Int32) (hq : q = 2) : CT l G yX10_kindOf cX10_kindOf 2 (some (.object "BetsOnBets$Bet")) 0 [.ref (ad 0), .int q] (WWY G ad σ) (some (.ref (ad 8))) (WWY G ad σ) := by
  refine x_meth "BetsOnBets$Ways" rfl (by decide +kernel) (by rfl) (Nat.le_of_ble_eq_true rfl) ?_
  intro pP eE sS mM args below meth cC A ls hC hr hkL hK hZ hA hH hl
  have hx := hC.1
  have hb := hC.2.1
  have hl : lv_has ls 2 [(0, .ref (ad 0)), (1, .int q)] := hl
  refine lv_iload_n hx hb dX10_kindOf_0 rfl (lv_at hl 1 rfl) ?_
  refine lv_if_lt (tgt := 22) hx hb dX10_kindOf_1 (by decide) (fun c1 => ?_) (fun c1 => ?_)
  · exact absurd c1 (by rw [hq]; decide)
  refine lv_iload_n hx hb dX10_kindOf_4 rfl (lv_at hl 1 rfl) ?_
  refine lv_aload_n hx hb dX10_kindOf_5 rfl (lv_at hl 0 rfl) ?_
  refine gf_X10_29 (v := .ref (ad 1)) hC hK hH 0 rfl rfl dX10_kindOf_6 ?_
  refine x_alenq hC hK hH 1 rfl (v := 6) rfl dX10_kindOf_9 ?_
  refine lv_icmp_ge (tgt := 22) hx hb dX10_kindOf_10 (by decide) (fun c10 => ?_) (fun c10 => ?_)
  · exact absurd c10 (by rw [hq]; decide)
  refine lv_aload_n hx hb dX10_kindOf_13 rfl (lv_at hl 0 rfl) ?_
  refine gf_X10_29 (v := .ref (ad 1)) hC hK hH 0 rfl rfl dX10_kindOf_14 ?_
  refine lv_iload_n hx hb dX10_kindOf_17 rfl (lv_at hl 1 rfl) ?_
  refine x_aalN hC hK hH 1 2 rfl hq (by decide) (Nat.le_of_ble_eq_true rfl) rfl dX10_kindOf_18 ?_
  refine lv_goto (tgt := 23) hx hb dX10_kindOf_19 (by decide) ?_
  exact x_aret hC hr (Or.inl ⟨_, rfl⟩) hkL hH rfl rfl dX10_kindOf_23
set_option maxHeartbeats 4000000 in
set_option maxRecDepth 100000 in
theorem k_X10_kindOf_3 (l : Launch) (G : GP) (ad : Nat → Nat) (σ : Nat → Nat → Int32) (q : Int32) (hq : q = 3) : CT l G yX10_kindOf cX10_kindOf 2 (some (.object "BetsOnBets$Bet")) 0 [.ref (ad 0), .int q] (WWY G ad σ) (some (.ref (ad 9))) (WWY G ad σ) := by
  refine x_meth "BetsOnBets$Ways" rfl (by decide +kernel) (by rfl) (Nat.le_of_ble_eq_true rfl) ?_
  intro pP eE sS mM args below meth cC A ls hC hr hkL hK hZ hA hH hl
  have hx := hC.1
  have hb := hC.2.1
  have hl : lv_has ls 2 [(0, .ref (ad 0)), (1, .int q)] := hl
  refine lv_iload_n hx hb dX10_kindOf_0 rfl (lv_at hl 1 rfl) ?_
  refine lv_if_lt (tgt := 22) hx hb dX10_kindOf_1 (by decide) (fun c1 => ?_) (fun c1 => ?_)
  · exact absurd c1 (by rw [hq]; decide)
  refine lv_iload_n hx hb dX10_kindOf_4 rfl (lv_at hl 1 rfl) ?_
  refine lv_aload_n hx hb dX10_kindOf_5 rfl (lv_at hl 0 rfl) ?_
  refine gf_X10_29 (v := .ref (ad 1)) hC hK hH 0 rfl rfl dX10_kindOf_6 ?_
  refine x_alenq hC hK hH 1 rfl (v := 6) rfl dX10_kindOf_9 ?_
  refine lv_icmp_ge (tgt := 22) hx hb dX10_kindOf_10 (by decide) (fun c10 => ?_) (fun c10 => ?_)
  · exact absurd c10 (by rw [hq]; decide)
  refine lv_aload_n hx hb dX10_kindOf_13 rfl (lv_at hl 0 rfl) ?_
  refine gf_X10_29 (v := .ref (ad 1)) hC hK hH 0 rfl rfl dX10_kindOf_14 ?_
  refine lv_iload_n hx hb dX10_kindOf_17 rfl (lv_at hl 1 rfl) ?_
  refine x_aalN hC hK hH 1 3 rfl hq (by decide) (Nat.le_of_ble_eq_true rfl) rfl dX10_kindOf_18 ?_
  refine lv_goto (tgt := 23) hx hb dX10_kindOf_19 (by decide) ?_
  exact x_aret hC hr (Or.inl ⟨_, rfl⟩) hkL hH rfl rfl dX10_kindOf_23
set_option maxHeartbeats 4000000 in
set_option maxRecDepth 100000 in
theorem k_X10_kindOf_4 (l : Launch) (G : GP) (ad : Nat → Nat) (σ : Nat → Nat → Int32) (q : Int32) (hq : q = 4) : CT l G yX10_kindOf cX10_kindOf 2 (some (.object "BetsOnBets$Bet")) 0 [.ref (ad 0), .int q] (WWY G ad σ) (some (.ref (ad 10))) (WWY G ad σ) := by
  refine x_meth "BetsOnBets$Ways" rfl (by decide +kernel) (by rfl) (Nat.le_of_ble_eq_true rfl) ?_
  intro pP eE sS mM args below meth cC A ls hC hr hkL hK hZ hA hH hl
  have hx := hC.1
  have hb := hC.2.1
  have hl : lv_has ls 2 [(0, .ref (ad 0)), (1, .int q)] := hl
  refine lv_iload_n hx hb dX10_kindOf_0 rfl (lv_at hl 1 rfl) ?_
  refine lv_if_lt (tgt := 22) hx hb dX10_kindOf_1 (by decide) (fun c1 => ?_) (fun c1 => ?_)
  · exact absurd c1 (by rw [hq]; decide)
  refine lv_iload_n hx hb dX10_kindOf_4 rfl (lv_at hl 1 rfl) ?_
  refine lv_aload_n hx hb dX10_kindOf_5 rfl (lv_at hl 0 rfl) ?_
  refine gf_X10_29 (v := .ref (ad 1)) hC hK hH 0 rfl rfl dX10_kindOf_6 ?_
  refine x_alenq hC hK hH 1 rfl (v := 6) rfl dX10_kindOf_9 ?_
  refine lv_icmp_ge (tgt := 22) hx hb dX10_kindOf_10 (by decide) (fun c10 => ?_) (fun c10 => ?_)
  · exact absurd c10 (by rw [hq]; decide)
  refine lv_aload_n hx hb dX10_kindOf_13 rfl (lv_at hl 0 rfl) ?_
  refine gf_X10_29 (v := .ref (ad 1)) hC hK hH 0 rfl rfl dX10_kindOf_14 ?_
  refine lv_iload_n hx hb dX10_kindOf_17 rfl (lv_at hl 1 rfl) ?_
  refine x_aalN hC hK hH 1 4 rfl hq (by decide) (Nat.le_of_ble_eq_true rfl) rfl dX10_kindOf_18 ?_
  refine lv_goto (tgt := 23) hx hb dX10_kindOf_19 (by decide) ?_
  exact x_aret hC hr (Or.inl ⟨_, rfl⟩) hkL hH rfl rfl dX10_kindOf_23
set_option maxHeartbeats 4000000 in
set_option maxRecDepth 100000 in
theorem k_X10_kindOf_5 (l : Launch) (G : GP) (ad : Nat → Nat) (σ : Nat → Nat → Int32) (q : Int32) (hq : q = 5) : CT l G yX10_kindOf cX10_kindOf 2 (some (.object "BetsOnBets$Bet")) 0 [.ref (ad 0), .int q] (WWY G ad σ) (some (.ref (ad 11))) (WWY G ad σ) := by
  refine x_meth "BetsOnBets$Ways" rfl (by decide +kernel) (by rfl) (Nat.le_of_ble_eq_true rfl) ?_
  intro pP eE sS mM args below meth cC A ls hC hr hkL hK hZ hA hH hl
  have hx := hC.1
  have hb := hC.2.1
  have hl : lv_has ls 2 [(0, .ref (ad 0)), (1, .int q)] := hl
  refine lv_iload_n hx hb dX10_kindOf_0 rfl (lv_at hl 1 rfl) ?_
  refine lv_if_lt (tgt := 22) hx hb dX10_kindOf_1 (by decide) (fun c1 => ?_) (fun c1 => ?_)
  · exact absurd c1 (by rw [hq]; decide)
  refine lv_iload_n hx hb dX10_kindOf_4 rfl (lv_at hl 1 rfl) ?_
  refine lv_aload_n hx hb dX10_kindOf_5 rfl (lv_at hl 0 rfl) ?_
  refine gf_X10_29 (v := .ref (ad 1)) hC hK hH 0 rfl rfl dX10_kindOf_6 ?_
  refine x_alenq hC hK hH 1 rfl (v := 6) rfl dX10_kindOf_9 ?_
  refine lv_icmp_ge (tgt := 22) hx hb dX10_kindOf_10 (by decide) (fun c10 => ?_) (fun c10 => ?_)
  · exact absurd c10 (by rw [hq]; decide)
  refine lv_aload_n hx hb dX10_kindOf_13 rfl (lv_at hl 0 rfl) ?_
  refine gf_X10_29 (v := .ref (ad 1)) hC hK hH 0 rfl rfl dX10_kindOf_14 ?_
  refine lv_iload_n hx hb dX10_kindOf_17 rfl (lv_at hl 1 rfl) ?_
  refine x_aalN hC hK hH 1 5 rfl hq (by decide) (Nat.le_of_ble_eq_true rfl) rfl dX10_kindOf_18 ?_
  refine lv_goto (tgt := 23) hx hb dX10_kindOf_19 (by decide) ?_
  exact x_aret hC hr (Or.inl ⟨_, rfl⟩) hkL hH rfl rfl dX10_kindOf_23
set_option maxHeartbeats 4000000 in
set_option maxRecDepth 100000 in
theorem k_X10_isWay (l : Launch) (G : GP) (ad : Nat → Nat) (σ : Nat → Nat → Int32) (e : Int32) (w : Int32) (h : Nat) (k : Nat) (hb3 : (σ 12 3) = nI h) (hb4 : (σ 12 4) = nI k) (hh4 : h ≤ 4) (hk6 : k ≤ 6) (hkd : KD (σ 14) k) : CT l G yX10_isWay cX10_isWay 8 (some .boolean) 2 [.ref (ad 0), .ref (ad 12), .int e, .int w] (WWB G ad σ) (some (.int (bI (isWayP (bk h k (σ 13) (σ 14) (σ 15)) e w)))) (WWB G ad σ) := by
  refine x_meth "BetsOnBets$Ways" rfl (by decide +kernel) (by rfl) (Nat.le_of_ble_eq_true rfl) ?_
  intro pP eE sS mM args below meth cC A ls hC hr hkL hK hZ hA hH hl
  have hx := hC.1
  have hb := hC.2.1
  have hl : lv_has ls 8 [(0, .ref (ad 0)), (1, .ref (ad 12)), (2, .int e), (3, .int w)] := hl
  have pwh := pw4 hh4
  have pwk := pw6 hk6
  have pk1 := Nat.one_le_two_pow (n := k)
  refine lv_iconst (v := 0) hx hb dX10_isWay_0 (by decide) ?_
  refine lv_istore (lv' := [(4, .int 0), (0, .ref (ad 0)), (1, .ref (ad 12)), (2, .int e), (3, .int w)]) hx hb dX10_isWay_1 hl (by decide) rfl (fun ls hl => ?_)
  refine x_loop (G := G) (A := A) (H0 := sS.heap) (nL := 8) (α := Nat) (fun q_ => k - q_) (fun q_ => q_ ≤ k ∧ ∀ i, i < q_ → (wonB (bk h k (σ 13) (σ 14) (σ 15)) i e w ↔ tb w (nI i))) (fun q_ => WWB G ad σ) (fun q_ => [(0, .ref (ad 0)), (1, .ref (ad 12)), (2, .int e), (3, .int w), (4, .int (nI q_))]) ?_ 0 (show 0 ≤ k ∧ ∀ i, i < 0 → (wonB (bk h k (σ 13) (σ 14) (σ 15)) i e w ↔ tb w (nI i)) from ⟨by omega, fun i h => absurd h (by omega)⟩) ?_ ?_
  · rintro j hi_j ih_j H locs ls hH hl
    replace hi_j : j ≤ k ∧ ∀ i, i < j → (wonB (bk h k (σ 13) (σ 14) (σ 15)) i e w ↔ tb w (nI i)) := hi_j
    replace hH : Hx G A (WWB G ad σ) sS.heap H locs := hH
    replace hl : lv_has ls 8 [(0, .ref (ad 0)), (1, .ref (ad 12)), (2, .int e), (3, .int w), (4, .int (nI j))] := hl
    have hi_j1 := hi_j.1
    refine lv_iload hx hb dX10_isWay_3 (lv_at hl 4 rfl) ?_
    refine lv_aload_n hx hb dX10_isWay_5 rfl (lv_at hl 1 rfl) ?_
    refine gf_X10_62 (v := .int (σ 12 4)) hC hK hH 12 rfl rfl dX10_isWay_6 ?_
    refine x_topE (y := (nI k)) hb4 ?_
    refine lv_icmp_ge (tgt := 84) hx hb dX10_isWay_9 (by decide) (fun c9 => ?_) (fun c9 => ?_)
    · have ge_j := lp_out (n := k) rfl (by omega) (by omega) c9
      have eq_j : j = k := by omega
      refine lv_iconst (v := 1) hx hb dX10_isWay_84 (by decide) ?_
      exact x_zret hC hr hkL hH nar_bI (bI_t (by intro i hi; exact hi_j.2 i (by have : i < k := hi; omega))) rfl dX10_isWay_85
    · have lt_j := lp_in (n := k) rfl (by omega) (by omega) c9
      refine lv_aload_n hx hb dX10_isWay_12 rfl (lv_at hl 0 rfl) ?_
      refine lv_aload_n hx hb dX10_isWay_13 rfl (lv_at hl 1 rfl) ?_
      refine lv_iload hx hb dX10_isWay_14 (lv_at hl 4 rfl) ?_
      refine lv_iconst (v := 0) hx hb dX10_isWay_16 (by decide) ?_
      refine x_callV (ws' := WWB G ad σ) (As := [.int (nI j), .int 0]) (rest := [.ref (ad 0)]) (st' := [.int ((σ 14) (7 * j + 0)), .ref (ad 0)]) hC hK hZ hA hl.1 hH (k_X2_numberOf l G (pk ad [12, 13, 14, 15]) (pk σ [12, 13, 14, 15]) (nI j) 0 j 0 rfl rfl (by omega) (by decide)) lk_X10_70 [12, 13, 14, 15] rfl rfl rfl 12 1 rfl rfl rfl ⟨Nat.le_of_ble_eq_true rfl, Nat.le_of_ble_eq_true rfl⟩ ⟨Nat.le_refl _, Nat.le_refl _⟩ (Nat.le_of_ble_eq_true rfl) rfl dX10_isWay_17 (fun H locs hH => ?_)
      rcases hkd j (by omega) with h0 | h1 | h2 | h3 | h4 | h5
      · refine x_topE (y := 0) h0 ?_
        refine x_callV (ws' := WWB G ad σ) (As := [.int 0]) (rest := []) (st' := [.ref (ad 6)]) hC hK hZ hA hl.1 hH (k_X10_kindOf_0 l G (pk ad [0, 1, 2, 3, 4, 5, 6, 7, 8, 9, 10, 11]) (pk σ [0, 1, 2, 3, 4, 5, 6, 7, 8, 9, 10, 11]) 0 rfl) lk_X10_74 [0, 1, 2, 3, 4, 5, 6, 7, 8, 9, 10, 11] rfl rfl rfl 0 9 rfl rfl rfl ⟨Nat.le_of_ble_eq_true rfl, Nat.le_of_ble_eq_true rfl⟩ ⟨Nat.le_refl _, Nat.le_refl _⟩ (Nat.le_of_ble_eq_true rfl) rfl dX10_isWay_20 (fun H locs hH => ?_)
        refine lv_astore (lv' := [(5, .ref (ad 6)), (0, .ref (ad 0)), (1, .ref (ad 12)), (2, .int e), (3, .int w), (4, .int (nI j))]) hx hb dX10_isWay_23 hl (by decide) rfl (fun ls hl => ?_)
        refine lv_aload_n hx hb dX10_isWay_25 rfl (lv_at hl 2 rfl) ?_
        refine lv_iload hx hb dX10_isWay_26 (lv_at hl 5 rfl) ?_
        refine lv_iconst (v := 1) hx hb dX10_isWay_28 (by decide) ?_
        refine x_callV (ws' := WWB G ad σ) (As := [.int (nI j), .int 1]) (rest := []) (st' := [.int ((σ 14) (7 * j + 1))]) hC hK hZ hA hl.1 hH (k_X2_numberOf l G (pk ad [12, 13, 14, 15]) (pk σ [12, 13, 14, 15]) (nI j) 1 j 1 rfl rfl (by omega) (by decide)) lk_X10_70 [12, 13, 14, 15] rfl rfl rfl 12 1 rfl rfl rfl ⟨Nat.le_of_ble_eq_true rfl, Nat.le_of_ble_eq_true rfl⟩ ⟨Nat.le_refl _, Nat.le_refl _⟩ (Nat.le_of_ble_eq_true rfl) rfl dX10_isWay_29 (fun H locs hH => ?_)
        refine x_topE (y := (nm (bk h k (σ 13) (σ 14) (σ 15)) j 1)) rfl ?_
        refine lv_iload_n hx hb dX10_isWay_32 rfl (lv_at hl 3 rfl) ?_
        refine lv_iload_n hx hb dX10_isWay_33 rfl (lv_at hl 4 rfl) ?_
        refine x_callS (ws' := WWB G ad σ) (As := [.int (nm (bk h k (σ 13) (σ 14) (σ 15)) j 1), .int e, .int w]) (rest := []) (st' := [.int (bI (soP (nm (bk h k (σ 13) (σ 14) (σ 15)) j 1) e w))]) hC hK hZ hA hl.1 hH (k_X10_isSo l G (pk ad []) (pk σ []) (nm (bk h k (σ 13) (σ 14) (σ 15)) j 1) e w) lk_X10_78 [] rfl rfl rfl rfl ⟨Nat.le_of_ble_eq_true rfl, Nat.le_of_ble_eq_true rfl⟩ ⟨Nat.le_refl _, Nat.le_refl _⟩ (Nat.le_of_ble_eq_true rfl) rfl dX10_isWay_34 (fun H locs hH => ?_)
        refine lv_istore (lv' := [(6, .int (bI (soP (nm (bk h k (σ 13) (σ 14) (σ 15)) j 1) e w))), (5, .ref (ad 6)), (0, .ref (ad 0)), (1, .ref (ad 12)), (2, .int e), (3, .int w), (4, .int (nI j))]) hx hb dX10_isWay_37 hl (by decide) rfl (fun ls hl => ?_)
        refine lv_aload_n hx hb dX10_isWay_39 rfl (lv_at hl 3 rfl) ?_
        refine lv_iload hx hb dX10_isWay_40 (lv_at hl 6 rfl) ?_
        refine lv_iconst (v := 2) hx hb dX10_isWay_42 (by decide) ?_
        refine x_callV (ws' := WWB G ad σ) (As := [.int (nI j), .int 2]) (rest := []) (st' := [.int ((σ 14) (7 * j + 2))]) hC hK hZ hA hl.1 hH (k_X2_numberOf l G (pk ad [12, 13, 14, 15]) (pk σ [12, 13, 14, 15]) (nI j) 2 j 2 rfl rfl (by omega) (by decide)) lk_X10_70 [12, 13, 14, 15] rfl rfl rfl 12 1 rfl rfl rfl ⟨Nat.le_of_ble_eq_true rfl, Nat.le_of_ble_eq_true rfl⟩ ⟨Nat.le_refl _, Nat.le_refl _⟩ (Nat.le_of_ble_eq_true rfl) rfl dX10_isWay_43 (fun H locs hH => ?_)
        refine x_topE (y := (nm (bk h k (σ 13) (σ 14) (σ 15)) j 2)) rfl ?_
        refine lv_iload_n hx hb dX10_isWay_46 rfl (lv_at hl 4 rfl) ?_
        refine lv_iload_n hx hb dX10_isWay_47 rfl (lv_at hl 5 rfl) ?_
        refine x_callS (ws' := WWB G ad σ) (As := [.int (nm (bk h k (σ 13) (σ 14) (σ 15)) j 2), .int e, .int w]) (rest := []) (st' := [.int (bI (soP (nm (bk h k (σ 13) (σ 14) (σ 15)) j 2) e w))]) hC hK hZ hA hl.1 hH (k_X10_isSo l G (pk ad []) (pk σ []) (nm (bk h k (σ 13) (σ 14) (σ 15)) j 2) e w) lk_X10_78 [] rfl rfl rfl rfl ⟨Nat.le_of_ble_eq_true rfl, Nat.le_of_ble_eq_true rfl⟩ ⟨Nat.le_refl _, Nat.le_refl _⟩ (Nat.le_of_ble_eq_true rfl) rfl dX10_isWay_48 (fun H locs hH => ?_)
        refine lv_istore (lv' := [(7, .int (bI (soP (nm (bk h k (σ 13) (σ 14) (σ 15)) j 2) e w))), (6, .int (bI (soP (nm (bk h k (σ 13) (σ 14) (σ 15)) j 1) e w))), (5, .ref (ad 6)), (0, .ref (ad 0)), (1, .ref (ad 12)), (2, .int e), (3, .int w), (4, .int (nI j))]) hx hb dX10_isWay_51 hl (by decide) rfl (fun ls hl => ?_)
        refine lv_aload hx hb dX10_isWay_53 (lv_at hl 2 rfl) ?_
        refine lv_ifnull hx hb dX10_isWay_55 ?_
        refine lv_aload hx hb dX10_isWay_58 (lv_at hl 2 rfl) ?_
        refine lv_iload hx hb dX10_isWay_60 (lv_at hl 1 rfl) ?_
        refine lv_iload hx hb dX10_isWay_62 (lv_at hl 0 rfl) ?_
        refine x_callG (ws' := WWB G ad σ) (As := [.int (bI (soP (nm (bk h k (σ 13) (σ 14) (σ 15)) j 1) e w)), .int (bI (soP (nm (bk h k (σ 13) (σ 14) (σ 15)) j 2) e w))]) (rest := []) (st' := [.int (bI ((soP (nm (bk h k (σ 13) (σ 14) (σ 15)) j 1) e w)))]) hC hK hZ hA hl.1 hH (k_X7_isWonBy l G (pk ad [6]) (pk σ [6]) (soP (nm (bk h k (σ 13) (σ 14) (σ 15)) j 1) e w) (soP (nm (bk h k (σ 13) (σ 14) (σ 15)) j 2) e w)) (lu_X10_82_X7 hC hK ⟨Nat.le_of_ble_eq_true rfl, Nat.le_of_ble_eq_true rfl⟩) [6] rfl rfl rfl 6 6 rfl rfl rfl ⟨Nat.le_refl _, Nat.le_refl _⟩ (Nat.le_of_ble_eq_true rfl) rfl dX10_isWay_64 (fun H locs hH => ?_)
        refine x_topE (y := (bI ((wonB (bk h k (σ 13) (σ 14) (σ 15)) j e w)))) (bI_e (wonB_c0 h0)) ?_
        refine lv_iload_n hx hb dX10_isWay_67 rfl (lv_at hl 6 rfl) ?_
        refine lv_iload hx hb dX10_isWay_68 (lv_at hl 7 rfl) ?_
        refine x_callN (ws' := WWB G ad σ) (As := [.int w, .int (nI j)]) (rest := [.int (bI ((wonB (bk h k (σ 13) (σ 14) (σ 15)) j e w)))]) (st' := [.int (bI (tb w (nI j))), .int (bI ((wonB (bk h k (σ 13) (σ 14) (σ 15)) j e w)))]) hC hK hZ hA hl.1 hH (k_X11_has l G (pk ad []) (pk σ []) w (nI j)) lk_X10_86 [] rfl rfl rfl rfl ⟨Nat.le_of_ble_eq_true rfl, Nat.le_of_ble_eq_true rfl⟩ ⟨Nat.le_refl _, Nat.le_refl _⟩ (Nat.le_of_ble_eq_true rfl) rfl dX10_isWay_70 (fun H locs hH => ?_)
        refine lv_icmp_eq (tgt := 78) hx hb dX10_isWay_73 (by decide) (fun c73 => ?_) (fun c73 => ?_)
        · refine lv_iinc (v := ((nI j) + 1)) (lv' := [(4, .int ((nI j) + 1)), (7, .int (bI (soP (nm (bk h k (σ 13) (σ 14) (σ 15)) j 2) e w))), (6, .int (bI (soP (nm (bk h k (σ 13) (σ 14) (σ 15)) j 1) e w))), (5, .ref (ad 6)), (0, .ref (ad 0)), (1, .ref (ad 12)), (2, .int e), (3, .int w)]) hx hb dX10_isWay_78 hl (k := 7) rfl rfl (by decide) rfl (fun ls hl => ?_)
          refine lv_goto (tgt := 3) hx hb dX10_isWay_81 (by decide) ?_
          exact ih_j (j + 1) (show (j + 1) ≤ k ∧ ∀ i, i < (j + 1) → (wonB (bk h k (σ 13) (σ 14) (σ 15)) i e w ↔ tb w (nI i)) from ⟨by omega, lt_s hi_j.2 (bI_inj.mp c73)⟩) (show k - (j + 1) < k - j from (by omega)) _ _ _ (hH.eq rfl) (lv_eq (lv_sub hl [4, 5, 6, 7, 0] rfl) (lc_s (lc_s (lc_s (lc_s (lc_i (by exact nI_1 _ : ((nI j) + 1) = (nI (j + 1))) rfl))))))
        · refine lv_iconst (v := 0) hx hb dX10_isWay_76 (by decide) ?_
          exact x_zret hC hr hkL hH nar_bI (bI_f (by exact fun z => c73 (bI_inj.mpr (z j lt_j)))) rfl dX10_isWay_77
      · refine x_topE (y := 1) h1 ?_
        refine x_callV (ws' := WWB G ad σ) (As := [.int 1]) (rest := []) (st' := [.ref (ad 7)]) hC hK hZ hA hl.1 hH (k_X10_kindOf_1 l G (pk ad [0, 1, 2, 3, 4, 5, 6, 7, 8, 9, 10, 11]) (pk σ [0, 1, 2, 3, 4, 5, 6, 7, 8, 9, 10, 11]) 1 rfl) lk_X10_74 [0, 1, 2, 3, 4, 5, 6, 7, 8, 9, 10, 11] rfl rfl rfl 0 9 rfl rfl rfl ⟨Nat.le_of_ble_eq_true rfl, Nat.le_of_ble_eq_true rfl⟩ ⟨Nat.le_refl _, Nat.le_refl _⟩ (Nat.le_of_ble_eq_true rfl) rfl dX10_isWay_20 (fun H locs hH => ?_)
        refine lv_astore (lv' := [(5, .ref (ad 7)), (0, .ref (ad 0)), (1, .ref (ad 12)), (2, .int e), (3, .int w), (4, .int (nI j))]) hx hb dX10_isWay_23 hl (by decide) rfl (fun ls hl => ?_)
        refine lv_aload_n hx hb dX10_isWay_25 rfl (lv_at hl 2 rfl) ?_
        refine lv_iload hx hb dX10_isWay_26 (lv_at hl 5 rfl) ?_
        refine lv_iconst (v := 1) hx hb dX10_isWay_28 (by decide) ?_
        refine x_callV (ws' := WWB G ad σ) (As := [.int (nI j), .int 1]) (rest := []) (st' := [.int ((σ 14) (7 * j + 1))]) hC hK hZ hA hl.1 hH (k_X2_numberOf l G (pk ad [12, 13, 14, 15]) (pk σ [12, 13, 14, 15]) (nI j) 1 j 1 rfl rfl (by omega) (by decide)) lk_X10_70 [12, 13, 14, 15] rfl rfl rfl 12 1 rfl rfl rfl ⟨Nat.le_of_ble_eq_true rfl, Nat.le_of_ble_eq_true rfl⟩ ⟨Nat.le_refl _, Nat.le_refl _⟩ (Nat.le_of_ble_eq_true rfl) rfl dX10_isWay_29 (fun H locs hH => ?_)
        refine x_topE (y := (nm (bk h k (σ 13) (σ 14) (σ 15)) j 1)) rfl ?_
        refine lv_iload_n hx hb dX10_isWay_32 rfl (lv_at hl 3 rfl) ?_
        refine lv_iload_n hx hb dX10_isWay_33 rfl (lv_at hl 4 rfl) ?_
        refine x_callS (ws' := WWB G ad σ) (As := [.int (nm (bk h k (σ 13) (σ 14) (σ 15)) j 1), .int e, .int w]) (rest := []) (st' := [.int (bI (soP (nm (bk h k (σ 13) (σ 14) (σ 15)) j 1) e w))]) hC hK hZ hA hl.1 hH (k_X10_isSo l G (pk ad []) (pk σ []) (nm (bk h k (σ 13) (σ 14) (σ 15)) j 1) e w) lk_X10_78 [] rfl rfl rfl rfl ⟨Nat.le_of_ble_eq_true rfl, Nat.le_of_ble_eq_true rfl⟩ ⟨Nat.le_refl _, Nat.le_refl _⟩ (Nat.le_of_ble_eq_true rfl) rfl dX10_isWay_34 (fun H locs hH => ?_)
        refine lv_istore (lv' := [(6, .int (bI (soP (nm (bk h k (σ 13) (σ 14) (σ 15)) j 1) e w))), (5, .ref (ad 7)), (0, .ref (ad 0)), (1, .ref (ad 12)), (2, .int e), (3, .int w), (4, .int (nI j))]) hx hb dX10_isWay_37 hl (by decide) rfl (fun ls hl => ?_)
        refine lv_aload_n hx hb dX10_isWay_39 rfl (lv_at hl 3 rfl) ?_
        refine lv_iload hx hb dX10_isWay_40 (lv_at hl 6 rfl) ?_
        refine lv_iconst (v := 2) hx hb dX10_isWay_42 (by decide) ?_
        refine x_callV (ws' := WWB G ad σ) (As := [.int (nI j), .int 2]) (rest := []) (st' := [.int ((σ 14) (7 * j + 2))]) hC hK hZ hA hl.1 hH (k_X2_numberOf l G (pk ad [12, 13, 14, 15]) (pk σ [12, 13, 14, 15]) (nI j) 2 j 2 rfl rfl (by omega) (by decide)) lk_X10_70 [12, 13, 14, 15] rfl rfl rfl 12 1 rfl rfl rfl ⟨Nat.le_of_ble_eq_true rfl, Nat.le_of_ble_eq_true rfl⟩ ⟨Nat.le_refl _, Nat.le_refl _⟩ (Nat.le_of_ble_eq_true rfl) rfl dX10_isWay_43 (fun H locs hH => ?_)
        refine x_topE (y := (nm (bk h k (σ 13) (σ 14) (σ 15)) j 2)) rfl ?_
        refine lv_iload_n hx hb dX10_isWay_46 rfl (lv_at hl 4 rfl) ?_
        refine lv_iload_n hx hb dX10_isWay_47 rfl (lv_at hl 5 rfl) ?_
        refine x_callS (ws' := WWB G ad σ) (As := [.int (nm (bk h k (σ 13) (σ 14) (σ 15)) j 2), .int e, .int w]) (rest := []) (st' := [.int (bI (soP (nm (bk h k (σ 13) (σ 14) (σ 15)) j 2) e w))]) hC hK hZ hA hl.1 hH (k_X10_isSo l G (pk ad []) (pk σ []) (nm (bk h k (σ 13) (σ 14) (σ 15)) j 2) e w) lk_X10_78 [] rfl rfl rfl rfl ⟨Nat.le_of_ble_eq_true rfl, Nat.le_of_ble_eq_true rfl⟩ ⟨Nat.le_refl _, Nat.le_refl _⟩ (Nat.le_of_ble_eq_true rfl) rfl dX10_isWay_48 (fun H locs hH => ?_)
        refine lv_istore (lv' := [(7, .int (bI (soP (nm (bk h k (σ 13) (σ 14) (σ 15)) j 2) e w))), (6, .int (bI (soP (nm (bk h k (σ 13) (σ 14) (σ 15)) j 1) e w))), (5, .ref (ad 7)), (0, .ref (ad 0)), (1, .ref (ad 12)), (2, .int e), (3, .int w), (4, .int (nI j))]) hx hb dX10_isWay_51 hl (by decide) rfl (fun ls hl => ?_)
        refine lv_aload hx hb dX10_isWay_53 (lv_at hl 2 rfl) ?_
        refine lv_ifnull hx hb dX10_isWay_55 ?_
        refine lv_aload hx hb dX10_isWay_58 (lv_at hl 2 rfl) ?_
        refine lv_iload hx hb dX10_isWay_60 (lv_at hl 1 rfl) ?_
        refine lv_iload hx hb dX10_isWay_62 (lv_at hl 0 rfl) ?_
        refine x_callG (ws' := WWB G ad σ) (As := [.int (bI (soP (nm (bk h k (σ 13) (σ 14) (σ 15)) j 1) e w)), .int (bI (soP (nm (bk h k (σ 13) (σ 14) (σ 15)) j 2) e w))]) (rest := []) (st' := [.int (bI (¬ (soP (nm (bk h k (σ 13) (σ 14) (σ 15)) j 1) e w)))]) hC hK hZ hA hl.1 hH (k_X0_isWonBy l G (pk ad [7]) (pk σ [7]) (soP (nm (bk h k (σ 13) (σ 14) (σ 15)) j 1) e w) (soP (nm (bk h k (σ 13) (σ 14) (σ 15)) j 2) e w)) (lu_X10_82_X0 hC hK ⟨Nat.le_of_ble_eq_true rfl, Nat.le_of_ble_eq_true rfl⟩) [7] rfl rfl rfl 7 0 rfl rfl rfl ⟨Nat.le_refl _, Nat.le_refl _⟩ (Nat.le_of_ble_eq_true rfl) rfl dX10_isWay_64 (fun H locs hH => ?_)
        refine x_topE (y := (bI ((wonB (bk h k (σ 13) (σ 14) (σ 15)) j e w)))) (bI_e (wonB_c1 h1)) ?_
        refine lv_iload_n hx hb dX10_isWay_67 rfl (lv_at hl 6 rfl) ?_
        refine lv_iload hx hb dX10_isWay_68 (lv_at hl 7 rfl) ?_
        refine x_callN (ws' := WWB G ad σ) (As := [.int w, .int (nI j)]) (rest := [.int (bI ((wonB (bk h k (σ 13) (σ 14) (σ 15)) j e w)))]) (st' := [.int (bI (tb w (nI j))), .int (bI ((wonB (bk h k (σ 13) (σ 14) (σ 15)) j e w)))]) hC hK hZ hA hl.1 hH (k_X11_has l G (pk ad []) (pk σ []) w (nI j)) lk_X10_86 [] rfl rfl rfl rfl ⟨Nat.le_of_ble_eq_true rfl, Nat.le_of_ble_eq_true rfl⟩ ⟨Nat.le_refl _, Nat.le_refl _⟩ (Nat.le_of_ble_eq_true rfl) rfl dX10_isWay_70 (fun H locs hH => ?_)
        refine lv_icmp_eq (tgt := 78) hx hb dX10_isWay_73 (by decide) (fun c73 => ?_) (fun c73 => ?_)
        · refine lv_iinc (v := ((nI j) + 1)) (lv' := [(4, .int ((nI j) + 1)), (7, .int (bI (soP (nm (bk h k (σ 13) (σ 14) (σ 15)) j 2) e w))), (6, .int (bI (soP (nm (bk h k (σ 13) (σ 14) (σ 15)) j 1) e w))), (5, .ref (ad 7)), (0, .ref (ad 0)), (1, .ref (ad 12)), (2, .int e), (3, .int w)]) hx hb dX10_isWay_78 hl (k := 7) rfl rfl (by decide) rfl (fun ls hl => ?_)
          refine lv_goto (tgt := 3) hx hb dX10_isWay_81 (by decide) ?_
          exact ih_j (j + 1) (show (j + 1) ≤ k ∧ ∀ i, i < (j + 1) → (wonB (bk h k (σ 13) (σ 14) (σ 15)) i e w ↔ tb w (nI i)) from ⟨by omega, lt_s hi_j.2 (bI_inj.mp c73)⟩) (show k - (j + 1) < k - j from (by omega)) _ _ _ (hH.eq rfl) (lv_eq (lv_sub hl [4, 5, 6, 7, 0] rfl) (lc_s (lc_s (lc_s (lc_s (lc_i (by exact nI_1 _ : ((nI j) + 1) = (nI (j + 1))) rfl))))))
        · refine lv_iconst (v := 0) hx hb dX10_isWay_76 (by decide) ?_
          exact x_zret hC hr hkL hH nar_bI (bI_f (by exact fun z => c73 (bI_inj.mpr (z j lt_j)))) rfl dX10_isWay_77
      · refine x_topE (y := 2) h2 ?_
        refine x_callV (ws' := WWB G ad σ) (As := [.int 2]) (rest := []) (st' := [.ref (ad 8)]) hC hK hZ hA hl.1 hH (k_X10_kindOf_2 l G (pk ad [0, 1, 2, 3, 4, 5, 6, 7, 8, 9, 10, 11]) (pk σ [0, 1, 2, 3, 4, 5, 6, 7, 8, 9, 10, 11]) 2 rfl) lk_X10_74 [0, 1, 2, 3, 4, 5, 6, 7, 8, 9, 10, 11] rfl rfl rfl 0 9 rfl rfl rfl ⟨Nat.le_of_ble_eq_true rfl, Nat.le_of_ble_eq_true rfl⟩ ⟨Nat.le_refl _, Nat.le_refl _⟩ (Nat.le_of_ble_eq_true rfl) rfl dX10_isWay_20 (fun H locs hH => ?_)
        refine lv_astore (lv' := [(5, .ref (ad 8)), (0, .ref (ad 0)), (1, .ref (ad 12)), (2, .int e), (3, .int w), (4, .int (nI j))]) hx hb dX10_isWay_23 hl (by decide) rfl (fun ls hl => ?_)
        refine lv_aload_n hx hb dX10_isWay_25 rfl (lv_at hl 2 rfl) ?_
        refine lv_iload hx hb dX10_isWay_26 (lv_at hl 5 rfl) ?_
        refine lv_iconst (v := 1) hx hb dX10_isWay_28 (by decide) ?_
        refine x_callV (ws' := WWB G ad σ) (As := [.int (nI j), .int 1]) (rest := []) (st' := [.int ((σ 14) (7 * j + 1))]) hC hK hZ hA hl.1 hH (k_X2_numberOf l G (pk ad [12, 13, 14, 15]) (pk σ [12, 13, 14, 15]) (nI j) 1 j 1 rfl rfl (by omega) (by decide)) lk_X10_70 [12, 13, 14, 15] rfl rfl rfl 12 1 rfl rfl rfl ⟨Nat.le_of_ble_eq_true rfl, Nat.le_of_ble_eq_true rfl⟩ ⟨Nat.le_refl _, Nat.le_refl _⟩ (Nat.le_of_ble_eq_true rfl) rfl dX10_isWay_29 (fun H locs hH => ?_)
        refine x_topE (y := (nm (bk h k (σ 13) (σ 14) (σ 15)) j 1)) rfl ?_
        refine lv_iload_n hx hb dX10_isWay_32 rfl (lv_at hl 3 rfl) ?_
        refine lv_iload_n hx hb dX10_isWay_33 rfl (lv_at hl 4 rfl) ?_
        refine x_callS (ws' := WWB G ad σ) (As := [.int (nm (bk h k (σ 13) (σ 14) (σ 15)) j 1), .int e, .int w]) (rest := []) (st' := [.int (bI (soP (nm (bk h k (σ 13) (σ 14) (σ 15)) j 1) e w))]) hC hK hZ hA hl.1 hH (k_X10_isSo l G (pk ad []) (pk σ []) (nm (bk h k (σ 13) (σ 14) (σ 15)) j 1) e w) lk_X10_78 [] rfl rfl rfl rfl ⟨Nat.le_of_ble_eq_true rfl, Nat.le_of_ble_eq_true rfl⟩ ⟨Nat.le_refl _, Nat.le_refl _⟩ (Nat.le_of_ble_eq_true rfl) rfl dX10_isWay_34 (fun H locs hH => ?_)
        refine lv_istore (lv' := [(6, .int (bI (soP (nm (bk h k (σ 13) (σ 14) (σ 15)) j 1) e w))), (5, .ref (ad 8)), (0, .ref (ad 0)), (1, .ref (ad 12)), (2, .int e), (3, .int w), (4, .int (nI j))]) hx hb dX10_isWay_37 hl (by decide) rfl (fun ls hl => ?_)
        refine lv_aload_n hx hb dX10_isWay_39 rfl (lv_at hl 3 rfl) ?_
        refine lv_iload hx hb dX10_isWay_40 (lv_at hl 6 rfl) ?_
        refine lv_iconst (v := 2) hx hb dX10_isWay_42 (by decide) ?_
        refine x_callV (ws' := WWB G ad σ) (As := [.int (nI j), .int 2]) (rest := []) (st' := [.int ((σ 14) (7 * j + 2))]) hC hK hZ hA hl.1 hH (k_X2_numberOf l G (pk ad [12, 13, 14, 15]) (pk σ [12, 13, 14, 15]) (nI j) 2 j 2 rfl rfl (by omega) (by decide)) lk_X10_70 [12, 13, 14, 15] rfl rfl rfl 12 1 rfl rfl rfl ⟨Nat.le_of_ble_eq_true rfl, Nat.le_of_ble_eq_true rfl⟩ ⟨Nat.le_refl _, Nat.le_refl _⟩ (Nat.le_of_ble_eq_true rfl) rfl dX10_isWay_43 (fun H locs hH => ?_)
        refine x_topE (y := (nm (bk h k (σ 13) (σ 14) (σ 15)) j 2)) rfl ?_
        refine lv_iload_n hx hb dX10_isWay_46 rfl (lv_at hl 4 rfl) ?_
        refine lv_iload_n hx hb dX10_isWay_47 rfl (lv_at hl 5 rfl) ?_
        refine x_callS (ws' := WWB G ad σ) (As := [.int (nm (bk h k (σ 13) (σ 14) (σ 15)) j 2), .int e, .int w]) (rest := []) (st' := [.int (bI (soP (nm (bk h k (σ 13) (σ 14) (σ 15)) j 2) e w))]) hC hK hZ hA hl.1 hH (k_X10_isSo l G (pk ad []) (pk σ []) (nm (bk h k (σ 13) (σ 14) (σ 15)) j 2) e w) lk_X10_78 [] rfl rfl rfl rfl ⟨Nat.le_of_ble_eq_true rfl, Nat.le_of_ble_eq_true rfl⟩ ⟨Nat.le_refl _, Nat.le_refl _⟩ (Nat.le_of_ble_eq_true rfl) rfl dX10_isWay_48 (fun H locs hH => ?_)
        refine lv_istore (lv' := [(7, .int (bI (soP (nm (bk h k (σ 13) (σ 14) (σ 15)) j 2) e w))), (6, .int (bI (soP (nm (bk h k (σ 13) (σ 14) (σ 15)) j 1) e w))), (5, .ref (ad 8)), (0, .ref (ad 0)), (1, .ref (ad 12)), (2, .int e), (3, .int w), (4, .int (nI j))]) hx hb dX10_isWay_51 hl (by decide) rfl (fun ls hl => ?_)
        refine lv_aload hx hb dX10_isWay_53 (lv_at hl 2 rfl) ?_
        refine lv_ifnull hx hb dX10_isWay_55 ?_
        refine lv_aload hx hb dX10_isWay_58 (lv_at hl 2 rfl) ?_
        refine lv_iload hx hb dX10_isWay_60 (lv_at hl 1 rfl) ?_
        refine lv_iload hx hb dX10_isWay_62 (lv_at hl 0 rfl) ?_
        refine x_callG (ws' := WWB G ad σ) (As := [.int (bI (soP (nm (bk h k (σ 13) (σ 14) (σ 15)) j 1) e w)), .int (bI (soP (nm (bk h k (σ 13) (σ 14) (σ 15)) j 2) e w))]) (rest := []) (st' := [.int (bI ((soP (nm (bk h k (σ 13) (σ 14) (σ 15)) j 1) e w) ∧ (soP (nm (bk h k (σ 13) (σ 14) (σ 15)) j 2) e w)))]) hC hK hZ hA hl.1 hH (k_X3_isWonBy l G (pk ad [8]) (pk σ [8]) (soP (nm (bk h k (σ 13) (σ 14) (σ 15)) j 1) e w) (soP (nm (bk h k (σ 13) (σ 14) (σ 15)) j 2) e w)) (lu_X10_82_X3 hC hK ⟨Nat.le_of_ble_eq_true rfl, Nat.le_of_ble_eq_true rfl⟩) [8] rfl rfl rfl 8 2 rfl rfl rfl ⟨Nat.le_refl _, Nat.le_refl _⟩ (Nat.le_of_ble_eq_true rfl) rfl dX10_isWay_64 (fun H locs hH => ?_)
        refine x_topE (y := (bI ((wonB (bk h k (σ 13) (σ 14) (σ 15)) j e w)))) (bI_e (wonB_c2 h2)) ?_
        refine lv_iload_n hx hb dX10_isWay_67 rfl (lv_at hl 6 rfl) ?_
        refine lv_iload hx hb dX10_isWay_68 (lv_at hl 7 rfl) ?_
        refine x_callN (ws' := WWB G ad σ) (As := [.int w, .int (nI j)]) (rest := [.int (bI ((wonB (bk h k (σ 13) (σ 14) (σ 15)) j e w)))]) (st' := [.int (bI (tb w (nI j))), .int (bI ((wonB (bk h k (σ 13) (σ 14) (σ 15)) j e w)))]) hC hK hZ hA hl.1 hH (k_X11_has l G (pk ad []) (pk σ []) w (nI j)) lk_X10_86 [] rfl rfl rfl rfl ⟨Nat.le_of_ble_eq_true rfl, Nat.le_of_ble_eq_true rfl⟩ ⟨Nat.le_refl _, Nat.le_refl _⟩ (Nat.le_of_ble_eq_true rfl) rfl dX10_isWay_70 (fun H locs hH => ?_)
        refine lv_icmp_eq (tgt := 78) hx hb dX10_isWay_73 (by decide) (fun c73 => ?_) (fun c73 => ?_)
        · refine lv_iinc (v := ((nI j) + 1)) (lv' := [(4, .int ((nI j) + 1)), (7, .int (bI (soP (nm (bk h k (σ 13) (σ 14) (σ 15)) j 2) e w))), (6, .int (bI (soP (nm (bk h k (σ 13) (σ 14) (σ 15)) j 1) e w))), (5, .ref (ad 8)), (0, .ref (ad 0)), (1, .ref (ad 12)), (2, .int e), (3, .int w)]) hx hb dX10_isWay_78 hl (k := 7) rfl rfl (by decide) rfl (fun ls hl => ?_)
          refine lv_goto (tgt := 3) hx hb dX10_isWay_81 (by decide) ?_
          exact ih_j (j + 1) (show (j + 1) ≤ k ∧ ∀ i, i < (j + 1) → (wonB (bk h k (σ 13) (σ 14) (σ 15)) i e w ↔ tb w (nI i)) from ⟨by omega, lt_s hi_j.2 (bI_inj.mp c73)⟩) (show k - (j + 1) < k - j from (by omega)) _ _ _ (hH.eq rfl) (lv_eq (lv_sub hl [4, 5, 6, 7, 0] rfl) (lc_s (lc_s (lc_s (lc_s (lc_i (by exact nI_1 _ : ((nI j) + 1) = (nI (j + 1))) rfl))))))
        · refine lv_iconst (v := 0) hx hb dX10_isWay_76 (by decide) ?_
          exact x_zret hC hr hkL hH nar_bI (bI_f (by exact fun z => c73 (bI_inj.mpr (z j lt_j)))) rfl dX10_isWay_77
      · refine x_topE (y := 3) h3 ?_
        refine x_callV (ws' := WWB G ad σ) (As := [.int 3]) (rest := []) (st' := [.ref (ad 9)]) hC hK hZ hA hl.1 hH (k_X10_kindOf_3 l G (pk ad [0, 1, 2, 3, 4, 5, 6, 7, 8, 9, 10, 11]) (pk σ [0, 1, 2, 3, 4, 5, 6, 7, 8, 9, 10, 11]) 3 rfl) lk_X10_74 [0, 1, 2, 3, 4, 5, 6, 7, 8, 9, 10, 11] rfl rfl rfl 0 9 rfl rfl rfl ⟨Nat.le_of_ble_eq_true rfl, Nat.le_of_ble_eq_true rfl⟩ ⟨Nat.le_refl _, Nat.le_refl _⟩ (Nat.le_of_ble_eq_true rfl) rfl dX10_isWay_20 (fun H locs hH => ?_)
        refine lv_astore (lv' := [(5, .ref (ad 9)), (0, .ref (ad 0)), (1, .ref (ad 12)), (2, .int e), (3, .int w), (4, .int (nI j))]) hx hb dX10_isWay_23 hl (by decide) rfl (fun ls hl => ?_)
        refine lv_aload_n hx hb dX10_isWay_25 rfl (lv_at hl 2 rfl) ?_
        refine lv_iload hx hb dX10_isWay_26 (lv_at hl 5 rfl) ?_
        refine lv_iconst (v := 1) hx hb dX10_isWay_28 (by decide) ?_
        refine x_callV (ws' := WWB G ad σ) (As := [.int (nI j), .int 1]) (rest := []) (st' := [.int ((σ 14) (7 * j + 1))]) hC hK hZ hA hl.1 hH (k_X2_numberOf l G (pk ad [12, 13, 14, 15]) (pk σ [12, 13, 14, 15]) (nI j) 1 j 1 rfl rfl (by omega) (by decide)) lk_X10_70 [12, 13, 14, 15] rfl rfl rfl 12 1 rfl rfl rfl ⟨Nat.le_of_ble_eq_true rfl, Nat.le_of_ble_eq_true rfl⟩ ⟨Nat.le_refl _, Nat.le_refl _⟩ (Nat.le_of_ble_eq_true rfl) rfl dX10_isWay_29 (fun H locs hH => ?_)
        refine x_topE (y := (nm (bk h k (σ 13) (σ 14) (σ 15)) j 1)) rfl ?_
        refine lv_iload_n hx hb dX10_isWay_32 rfl (lv_at hl 3 rfl) ?_
        refine lv_iload_n hx hb dX10_isWay_33 rfl (lv_at hl 4 rfl) ?_
        refine x_callS (ws' := WWB G ad σ) (As := [.int (nm (bk h k (σ 13) (σ 14) (σ 15)) j 1), .int e, .int w]) (rest := []) (st' := [.int (bI (soP (nm (bk h k (σ 13) (σ 14) (σ 15)) j 1) e w))]) hC hK hZ hA hl.1 hH (k_X10_isSo l G (pk ad []) (pk σ []) (nm (bk h k (σ 13) (σ 14) (σ 15)) j 1) e w) lk_X10_78 [] rfl rfl rfl rfl ⟨Nat.le_of_ble_eq_true rfl, Nat.le_of_ble_eq_true rfl⟩ ⟨Nat.le_refl _, Nat.le_refl _⟩ (Nat.le_of_ble_eq_true rfl) rfl dX10_isWay_34 (fun H locs hH => ?_)
        refine lv_istore (lv' := [(6, .int (bI (soP (nm (bk h k (σ 13) (σ 14) (σ 15)) j 1) e w))), (5, .ref (ad 9)), (0, .ref (ad 0)), (1, .ref (ad 12)), (2, .int e), (3, .int w), (4, .int (nI j))]) hx hb dX10_isWay_37 hl (by decide) rfl (fun ls hl => ?_)
        refine lv_aload_n hx hb dX10_isWay_39 rfl (lv_at hl 3 rfl) ?_
        refine lv_iload hx hb dX10_isWay_40 (lv_at hl 6 rfl) ?_
        refine lv_iconst (v := 2) hx hb dX10_isWay_42 (by decide) ?_
        refine x_callV (ws' := WWB G ad σ) (As := [.int (nI j), .int 2]) (rest := []) (st' := [.int ((σ 14) (7 * j + 2))]) hC hK hZ hA hl.1 hH (k_X2_numberOf l G (pk ad [12, 13, 14, 15]) (pk σ [12, 13, 14, 15]) (nI j) 2 j 2 rfl rfl (by omega) (by decide)) lk_X10_70 [12, 13, 14, 15] rfl rfl rfl 12 1 rfl rfl rfl ⟨Nat.le_of_ble_eq_true rfl, Nat.le_of_ble_eq_true rfl⟩ ⟨Nat.le_refl _, Nat.le_refl _⟩ (Nat.le_of_ble_eq_true rfl) rfl dX10_isWay_43 (fun H locs hH => ?_)
        refine x_topE (y := (nm (bk h k (σ 13) (σ 14) (σ 15)) j 2)) rfl ?_
        refine lv_iload_n hx hb dX10_isWay_46 rfl (lv_at hl 4 rfl) ?_
        refine lv_iload_n hx hb dX10_isWay_47 rfl (lv_at hl 5 rfl) ?_
        refine x_callS (ws' := WWB G ad σ) (As := [.int (nm (bk h k (σ 13) (σ 14) (σ 15)) j 2), .int e, .int w]) (rest := []) (st' := [.int (bI (soP (nm (bk h k (σ 13) (σ 14) (σ 15)) j 2) e w))]) hC hK hZ hA hl.1 hH (k_X10_isSo l G (pk ad []) (pk σ []) (nm (bk h k (σ 13) (σ 14) (σ 15)) j 2) e w) lk_X10_78 [] rfl rfl rfl rfl ⟨Nat.le_of_ble_eq_true rfl, Nat.le_of_ble_eq_true rfl⟩ ⟨Nat.le_refl _, Nat.le_refl _⟩ (Nat.le_of_ble_eq_true rfl) rfl dX10_isWay_48 (fun H locs hH => ?_)
        refine lv_istore (lv' := [(7, .int (bI (soP (nm (bk h k (σ 13) (σ 14) (σ 15)) j 2) e w))), (6, .int (bI (soP (nm (bk h k (σ 13) (σ 14) (σ 15)) j 1) e w))), (5, .ref (ad 9)), (0, .ref (ad 0)), (1, .ref (ad 12)), (2, .int e), (3, .int w), (4, .int (nI j))]) hx hb dX10_isWay_51 hl (by decide) rfl (fun ls hl => ?_)
        refine lv_aload hx hb dX10_isWay_53 (lv_at hl 2 rfl) ?_
        refine lv_ifnull hx hb dX10_isWay_55 ?_
        refine lv_aload hx hb dX10_isWay_58 (lv_at hl 2 rfl) ?_
        refine lv_iload hx hb dX10_isWay_60 (lv_at hl 1 rfl) ?_
        refine lv_iload hx hb dX10_isWay_62 (lv_at hl 0 rfl) ?_
        refine x_callG (ws' := WWB G ad σ) (As := [.int (bI (soP (nm (bk h k (σ 13) (σ 14) (σ 15)) j 1) e w)), .int (bI (soP (nm (bk h k (σ 13) (σ 14) (σ 15)) j 2) e w))]) (rest := []) (st' := [.int (bI ((soP (nm (bk h k (σ 13) (σ 14) (σ 15)) j 1) e w) ∨ (soP (nm (bk h k (σ 13) (σ 14) (σ 15)) j 2) e w)))]) hC hK hZ hA hl.1 hH (k_X4_isWonBy l G (pk ad [9]) (pk σ [9]) (soP (nm (bk h k (σ 13) (σ 14) (σ 15)) j 1) e w) (soP (nm (bk h k (σ 13) (σ 14) (σ 15)) j 2) e w)) (lu_X10_82_X4 hC hK ⟨Nat.le_of_ble_eq_true rfl, Nat.le_of_ble_eq_true rfl⟩) [9] rfl rfl rfl 9 3 rfl rfl rfl ⟨Nat.le_refl _, Nat.le_refl _⟩ (Nat.le_of_ble_eq_true rfl) rfl dX10_isWay_64 (fun H locs hH => ?_)
        refine x_topE (y := (bI ((wonB (bk h k (σ 13) (σ 14) (σ 15)) j e w)))) (bI_e (wonB_c3 h3)) ?_
        refine lv_iload_n hx hb dX10_isWay_67 rfl (lv_at hl 6 rfl) ?_
        refine lv_iload hx hb dX10_isWay_68 (lv_at hl 7 rfl) ?_
        refine x_callN (ws' := WWB G ad σ) (As := [.int w, .int (nI j)]) (rest := [.int (bI ((wonB (bk h k (σ 13) (σ 14) (σ 15)) j e w)))]) (st' := [.int (bI (tb w (nI j))), .int (bI ((wonB (bk h k (σ 13) (σ 14) (σ 15)) j e w)))]) hC hK hZ hA hl.1 hH (k_X11_has l G (pk ad []) (pk σ []) w (nI j)) lk_X10_86 [] rfl rfl rfl rfl ⟨Nat.le_of_ble_eq_true rfl, Nat.le_of_ble_eq_true rfl⟩ ⟨Nat.le_refl _, Nat.le_refl _⟩ (Nat.le_of_ble_eq_true rfl) rfl dX10_isWay_70 (fun H locs hH => ?_)
        refine lv_icmp_eq (tgt := 78) hx hb dX10_isWay_73 (by decide) (fun c73 => ?_) (fun c73 => ?_)
        · refine lv_iinc (v := ((nI j) + 1)) (lv' := [(4, .int ((nI j) + 1)), (7, .int (bI (soP (nm (bk h k (σ 13) (σ 14) (σ 15)) j 2) e w))), (6, .int (bI (soP (nm (bk h k (σ 13) (σ 14) (σ 15)) j 1) e w))), (5, .ref (ad 9)), (0, .ref (ad 0)), (1, .ref (ad 12)), (2, .int e), (3, .int w)]) hx hb dX10_isWay_78 hl (k := 7) rfl rfl (by decide) rfl (fun ls hl => ?_)
          refine lv_goto (tgt := 3) hx hb dX10_isWay_81 (by decide) ?_
          exact ih_j (j + 1) (show (j + 1) ≤ k ∧ ∀ i, i < (j + 1) → (wonB (bk h k (σ 13) (σ 14) (σ 15)) i e w ↔ tb w (nI i)) from ⟨by omega, lt_s hi_j.2 (bI_inj.mp c73)⟩) (show k - (j + 1) < k - j from (by omega)) _ _ _ (hH.eq rfl) (lv_eq (lv_sub hl [4, 5, 6, 7, 0] rfl) (lc_s (lc_s (lc_s (lc_s (lc_i (by exact nI_1 _ : ((nI j) + 1) = (nI (j + 1))) rfl))))))
        · refine lv_iconst (v := 0) hx hb dX10_isWay_76 (by decide) ?_
          exact x_zret hC hr hkL hH nar_bI (bI_f (by exact fun z => c73 (bI_inj.mpr (z j lt_j)))) rfl dX10_isWay_77
      · refine x_topE (y := 4) h4 ?_
        refine x_callV (ws' := WWB G ad σ) (As := [.int 4]) (rest := []) (st' := [.ref (ad 10)]) hC hK hZ hA hl.1 hH (k_X10_kindOf_4 l G (pk ad [0, 1, 2, 3, 4, 5, 6, 7, 8, 9, 10, 11]) (pk σ [0, 1, 2, 3, 4, 5, 6, 7, 8, 9, 10, 11]) 4 rfl) lk_X10_74 [0, 1, 2, 3, 4, 5, 6, 7, 8, 9, 10, 11] rfl rfl rfl 0 9 rfl rfl rfl ⟨Nat.le_of_ble_eq_true rfl, Nat.le_of_ble_eq_true rfl⟩ ⟨Nat.le_refl _, Nat.le_refl _⟩ (Nat.le_of_ble_eq_true rfl) rfl dX10_isWay_20 (fun H locs hH => ?_)
        refine lv_astore (lv' := [(5, .ref (ad 10)), (0, .ref (ad 0)), (1, .ref (ad 12)), (2, .int e), (3, .int w), (4, .int (nI j))]) hx hb dX10_isWay_23 hl (by decide) rfl (fun ls hl => ?_)
        refine lv_aload_n hx hb dX10_isWay_25 rfl (lv_at hl 2 rfl) ?_
        refine lv_iload hx hb dX10_isWay_26 (lv_at hl 5 rfl) ?_
        refine lv_iconst (v := 1) hx hb dX10_isWay_28 (by decide) ?_
        refine x_callV (ws' := WWB G ad σ) (As := [.int (nI j), .int 1]) (rest := []) (st' := [.int ((σ 14) (7 * j + 1))]) hC hK hZ hA hl.1 hH (k_X2_numberOf l G (pk ad [12, 13, 14, 15]) (pk σ [12, 13, 14, 15]) (nI j) 1 j 1 rfl rfl (by omega) (by decide)) lk_X10_70 [12, 13, 14, 15] rfl rfl rfl 12 1 rfl rfl rfl ⟨Nat.le_of_ble_eq_true rfl, Nat.le_of_ble_eq_true rfl⟩ ⟨Nat.le_refl _, Nat.le_refl _⟩ (Nat.le_of_ble_eq_true rfl) rfl dX10_isWay_29 (fun H locs hH => ?_)
        refine x_topE (y := (nm (bk h k (σ 13) (σ 14) (σ 15)) j 1)) rfl ?_
        refine lv_iload_n hx hb dX10_isWay_32 rfl (lv_at hl 3 rfl) ?_
        refine lv_iload_n hx hb dX10_isWay_33 rfl (lv_at hl 4 rfl) ?_
        refine x_callS (ws' := WWB G ad σ) (As := [.int (nm (bk h k (σ 13) (σ 14) (σ 15)) j 1), .int e, .int w]) (rest := []) (st' := [.int (bI (soP (nm (bk h k (σ 13) (σ 14) (σ 15)) j 1) e w))]) hC hK hZ hA hl.1 hH (k_X10_isSo l G (pk ad []) (pk σ []) (nm (bk h k (σ 13) (σ 14) (σ 15)) j 1) e w) lk_X10_78 [] rfl rfl rfl rfl ⟨Nat.le_of_ble_eq_true rfl, Nat.le_of_ble_eq_true rfl⟩ ⟨Nat.le_refl _, Nat.le_refl _⟩ (Nat.le_of_ble_eq_true rfl) rfl dX10_isWay_34 (fun H locs hH => ?_)
        refine lv_istore (lv' := [(6, .int (bI (soP (nm (bk h k (σ 13) (σ 14) (σ 15)) j 1) e w))), (5, .ref (ad 10)), (0, .ref (ad 0)), (1, .ref (ad 12)), (2, .int e), (3, .int w), (4, .int (nI j))]) hx hb dX10_isWay_37 hl (by decide) rfl (fun ls hl => ?_)
        refine lv_aload_n hx hb dX10_isWay_39 rfl (lv_at hl 3 rfl) ?_
        refine lv_iload hx hb dX10_isWay_40 (lv_at hl 6 rfl) ?_
        refine lv_iconst (v := 2) hx hb dX10_isWay_42 (by decide) ?_
        refine x_callV (ws' := WWB G ad σ) (As := [.int (nI j), .int 2]) (rest := []) (st' := [.int ((σ 14) (7 * j + 2))]) hC hK hZ hA hl.1 hH (k_X2_numberOf l G (pk ad [12, 13, 14, 15]) (pk σ [12, 13, 14, 15]) (nI j) 2 j 2 rfl rfl (by omega) (by decide)) lk_X10_70 [12, 13, 14, 15] rfl rfl rfl 12 1 rfl rfl rfl ⟨Nat.le_of_ble_eq_true rfl, Nat.le_of_ble_eq_true rfl⟩ ⟨Nat.le_refl _, Nat.le_refl _⟩ (Nat.le_of_ble_eq_true rfl) rfl dX10_isWay_43 (fun H locs hH => ?_)
        refine x_topE (y := (nm (bk h k (σ 13) (σ 14) (σ 15)) j 2)) rfl ?_
        refine lv_iload_n hx hb dX10_isWay_46 rfl (lv_at hl 4 rfl) ?_
        refine lv_iload_n hx hb dX10_isWay_47 rfl (lv_at hl 5 rfl) ?_
        refine x_callS (ws' := WWB G ad σ) (As := [.int (nm (bk h k (σ 13) (σ 14) (σ 15)) j 2), .int e, .int w]) (rest := []) (st' := [.int (bI (soP (nm (bk h k (σ 13) (σ 14) (σ 15)) j 2) e w))]) hC hK hZ hA hl.1 hH (k_X10_isSo l G (pk ad []) (pk σ []) (nm (bk h k (σ 13) (σ 14) (σ 15)) j 2) e w) lk_X10_78 [] rfl rfl rfl rfl ⟨Nat.le_of_ble_eq_true rfl, Nat.le_of_ble_eq_true rfl⟩ ⟨Nat.le_refl _, Nat.le_refl _⟩ (Nat.le_of_ble_eq_true rfl) rfl dX10_isWay_48 (fun H locs hH => ?_)
        refine lv_istore (lv' := [(7, .int (bI (soP (nm (bk h k (σ 13) (σ 14) (σ 15)) j 2) e w))), (6, .int (bI (soP (nm (bk h k (σ 13) (σ 14) (σ 15)) j 1) e w))), (5, .ref (ad 10)), (0, .ref (ad 0)), (1, .ref (ad 12)), (2, .int e), (3, .int w), (4, .int (nI j))]) hx hb dX10_isWay_51 hl (by decide) rfl (fun ls hl => ?_)
        refine lv_aload hx hb dX10_isWay_53 (lv_at hl 2 rfl) ?_
        refine lv_ifnull hx hb dX10_isWay_55 ?_
        refine lv_aload hx hb dX10_isWay_58 (lv_at hl 2 rfl) ?_
        refine lv_iload hx hb dX10_isWay_60 (lv_at hl 1 rfl) ?_
        refine lv_iload hx hb dX10_isWay_62 (lv_at hl 0 rfl) ?_
        refine x_callG (ws' := WWB G ad σ) (As := [.int (bI (soP (nm (bk h k (σ 13) (σ 14) (σ 15)) j 1) e w)), .int (bI (soP (nm (bk h k (σ 13) (σ 14) (σ 15)) j 2) e w))]) (rest := []) (st' := [.int (bI (¬ ((soP (nm (bk h k (σ 13) (σ 14) (σ 15)) j 1) e w) ↔ (soP (nm (bk h k (σ 13) (σ 14) (σ 15)) j 2) e w))))]) hC hK hZ hA hl.1 hH (k_X6_isWonBy l G (pk ad [10]) (pk σ [10]) (soP (nm (bk h k (σ 13) (σ 14) (σ 15)) j 1) e w) (soP (nm (bk h k (σ 13) (σ 14) (σ 15)) j 2) e w)) (lu_X10_82_X6 hC hK ⟨Nat.le_of_ble_eq_true rfl, Nat.le_of_ble_eq_true rfl⟩) [10] rfl rfl rfl 10 5 rfl rfl rfl ⟨Nat.le_refl _, Nat.le_refl _⟩ (Nat.le_of_ble_eq_true rfl) rfl dX10_isWay_64 (fun H locs hH => ?_)
        refine x_topE (y := (bI ((wonB (bk h k (σ 13) (σ 14) (σ 15)) j e w)))) (bI_e (wonB_c4 h4)) ?_
        refine lv_iload_n hx hb dX10_isWay_67 rfl (lv_at hl 6 rfl) ?_
        refine lv_iload hx hb dX10_isWay_68 (lv_at hl 7 rfl) ?_
        refine x_callN (ws' := WWB G ad σ) (As := [.int w, .int (nI j)]) (rest := [.int (bI ((wonB (bk h k (σ 13) (σ 14) (σ 15)) j e w)))]) (st' := [.int (bI (tb w (nI j))), .int (bI ((wonB (bk h k (σ 13) (σ 14) (σ 15)) j e w)))]) hC hK hZ hA hl.1 hH (k_X11_has l G (pk ad []) (pk σ []) w (nI j)) lk_X10_86 [] rfl rfl rfl rfl ⟨Nat.le_of_ble_eq_true rfl, Nat.le_of_ble_eq_true rfl⟩ ⟨Nat.le_refl _, Nat.le_refl _⟩ (Nat.le_of_ble_eq_true rfl) rfl dX10_isWay_70 (fun H locs hH => ?_)
        refine lv_icmp_eq (tgt := 78) hx hb dX10_isWay_73 (by decide) (fun c73 => ?_) (fun c73 => ?_)
        · refine lv_iinc (v := ((nI j) + 1)) (lv' := [(4, .int ((nI j) + 1)), (7, .int (bI (soP (nm (bk h k (σ 13) (σ 14) (σ 15)) j 2) e w))), (6, .int (bI (soP (nm (bk h k (σ 13) (σ 14) (σ 15)) j 1) e w))), (5, .ref (ad 10)), (0, .ref (ad 0)), (1, .ref (ad 12)), (2, .int e), (3, .int w)]) hx hb dX10_isWay_78 hl (k := 7) rfl rfl (by decide) rfl (fun ls hl => ?_)
          refine lv_goto (tgt := 3) hx hb dX10_isWay_81 (by decide) ?_
          exact ih_j (j + 1) (show (j + 1) ≤ k ∧ ∀ i, i < (j + 1) → (wonB (bk h k (σ 13) (σ 14) (σ 15)) i e w ↔ tb w (nI i)) from ⟨by omega, lt_s hi_j.2 (bI_inj.mp c73)⟩) (show k - (j + 1) < k - j from (by omega)) _ _ _ (hH.eq rfl) (lv_eq (lv_sub hl [4, 5, 6, 7, 0] rfl) (lc_s (lc_s (lc_s (lc_s (lc_i (by exact nI_1 _ : ((nI j) + 1) = (nI (j + 1))) rfl))))))
        · refine lv_iconst (v := 0) hx hb dX10_isWay_76 (by decide) ?_
          exact x_zret hC hr hkL hH nar_bI (bI_f (by exact fun z => c73 (bI_inj.mpr (z j lt_j)))) rfl dX10_isWay_77
      · refine x_topE (y := 5) h5 ?_
        refine x_callV (ws' := WWB G ad σ) (As := [.int 5]) (rest := []) (st' := [.ref (ad 11)]) hC hK hZ hA hl.1 hH (k_X10_kindOf_5 l G (pk ad [0, 1, 2, 3, 4, 5, 6, 7, 8, 9, 10, 11]) (pk σ [0, 1, 2, 3, 4, 5, 6, 7, 8, 9, 10, 11]) 5 rfl) lk_X10_74 [0, 1, 2, 3, 4, 5, 6, 7, 8, 9, 10, 11] rfl rfl rfl 0 9 rfl rfl rfl ⟨Nat.le_of_ble_eq_true rfl, Nat.le_of_ble_eq_true rfl⟩ ⟨Nat.le_refl _, Nat.le_refl _⟩ (Nat.le_of_ble_eq_true rfl) rfl dX10_isWay_20 (fun H locs hH => ?_)
        refine lv_astore (lv' := [(5, .ref (ad 11)), (0, .ref (ad 0)), (1, .ref (ad 12)), (2, .int e), (3, .int w), (4, .int (nI j))]) hx hb dX10_isWay_23 hl (by decide) rfl (fun ls hl => ?_)
        refine lv_aload_n hx hb dX10_isWay_25 rfl (lv_at hl 2 rfl) ?_
        refine lv_iload hx hb dX10_isWay_26 (lv_at hl 5 rfl) ?_
        refine lv_iconst (v := 1) hx hb dX10_isWay_28 (by decide) ?_
        refine x_callV (ws' := WWB G ad σ) (As := [.int (nI j), .int 1]) (rest := []) (st' := [.int ((σ 14) (7 * j + 1))]) hC hK hZ hA hl.1 hH (k_X2_numberOf l G (pk ad [12, 13, 14, 15]) (pk σ [12, 13, 14, 15]) (nI j) 1 j 1 rfl rfl (by omega) (by decide)) lk_X10_70 [12, 13, 14, 15] rfl rfl rfl 12 1 rfl rfl rfl ⟨Nat.le_of_ble_eq_true rfl, Nat.le_of_ble_eq_true rfl⟩ ⟨Nat.le_refl _, Nat.le_refl _⟩ (Nat.le_of_ble_eq_true rfl) rfl dX10_isWay_29 (fun H locs hH => ?_)
        refine x_topE (y := (nm (bk h k (σ 13) (σ 14) (σ 15)) j 1)) rfl ?_
        refine lv_iload_n hx hb dX10_isWay_32 rfl (lv_at hl 3 rfl) ?_
        refine lv_iload_n hx hb dX10_isWay_33 rfl (lv_at hl 4 rfl) ?_
        refine x_callS (ws' := WWB G ad σ) (As := [.int (nm (bk h k (σ 13) (σ 14) (σ 15)) j 1), .int e, .int w]) (rest := []) (st' := [.int (bI (soP (nm (bk h k (σ 13) (σ 14) (σ 15)) j 1) e w))]) hC hK hZ hA hl.1 hH (k_X10_isSo l G (pk ad []) (pk σ []) (nm (bk h k (σ 13) (σ 14) (σ 15)) j 1) e w) lk_X10_78 [] rfl rfl rfl rfl ⟨Nat.le_of_ble_eq_true rfl, Nat.le_of_ble_eq_true rfl⟩ ⟨Nat.le_refl _, Nat.le_refl _⟩ (Nat.le_of_ble_eq_true rfl) rfl dX10_isWay_34 (fun H locs hH => ?_)
        refine lv_istore (lv' := [(6, .int (bI (soP (nm (bk h k (σ 13) (σ 14) (σ 15)) j 1) e w))), (5, .ref (ad 11)), (0, .ref (ad 0)), (1, .ref (ad 12)), (2, .int e), (3, .int w), (4, .int (nI j))]) hx hb dX10_isWay_37 hl (by decide) rfl (fun ls hl => ?_)
        refine lv_aload_n hx hb dX10_isWay_39 rfl (lv_at hl 3 rfl) ?_
        refine lv_iload hx hb dX10_isWay_40 (lv_at hl 6 rfl) ?_
        refine lv_iconst (v := 2) hx hb dX10_isWay_42 (by decide) ?_
        refine x_callV (ws' := WWB G ad σ) (As := [.int (nI j), .int 2]) (rest := []) (st' := [.int ((σ 14) (7 * j + 2))]) hC hK hZ hA hl.1 hH (k_X2_numberOf l G (pk ad [12, 13, 14, 15]) (pk σ [12, 13, 14, 15]) (nI j) 2 j 2 rfl rfl (by omega) (by decide)) lk_X10_70 [12, 13, 14, 15] rfl rfl rfl 12 1 rfl rfl rfl ⟨Nat.le_of_ble_eq_true rfl, Nat.le_of_ble_eq_true rfl⟩ ⟨Nat.le_refl _, Nat.le_refl _⟩ (Nat.le_of_ble_eq_true rfl) rfl dX10_isWay_43 (fun H locs hH => ?_)
        refine x_topE (y := (nm (bk h k (σ 13) (σ 14) (σ 15)) j 2)) rfl ?_
        refine lv_iload_n hx hb dX10_isWay_46 rfl (lv_at hl 4 rfl) ?_
        refine lv_iload_n hx hb dX10_isWay_47 rfl (lv_at hl 5 rfl) ?_
        refine x_callS (ws' := WWB G ad σ) (As := [.int (nm (bk h k (σ 13) (σ 14) (σ 15)) j 2), .int e, .int w]) (rest := []) (st' := [.int (bI (soP (nm (bk h k (σ 13) (σ 14) (σ 15)) j 2) e w))]) hC hK hZ hA hl.1 hH (k_X10_isSo l G (pk ad []) (pk σ []) (nm (bk h k (σ 13) (σ 14) (σ 15)) j 2) e w) lk_X10_78 [] rfl rfl rfl rfl ⟨Nat.le_of_ble_eq_true rfl, Nat.le_of_ble_eq_true rfl⟩ ⟨Nat.le_refl _, Nat.le_refl _⟩ (Nat.le_of_ble_eq_true rfl) rfl dX10_isWay_48 (fun H locs hH => ?_)
        refine lv_istore (lv' := [(7, .int (bI (soP (nm (bk h k (σ 13) (σ 14) (σ 15)) j 2) e w))), (6, .int (bI (soP (nm (bk h k (σ 13) (σ 14) (σ 15)) j 1) e w))), (5, .ref (ad 11)), (0, .ref (ad 0)), (1, .ref (ad 12)), (2, .int e), (3, .int w), (4, .int (nI j))]) hx hb dX10_isWay_51 hl (by decide) rfl (fun ls hl => ?_)
        refine lv_aload hx hb dX10_isWay_53 (lv_at hl 2 rfl) ?_
        refine lv_ifnull hx hb dX10_isWay_55 ?_
        refine lv_aload hx hb dX10_isWay_58 (lv_at hl 2 rfl) ?_
        refine lv_iload hx hb dX10_isWay_60 (lv_at hl 1 rfl) ?_
        refine lv_iload hx hb dX10_isWay_62 (lv_at hl 0 rfl) ?_
        refine x_callG (ws' := WWB G ad σ) (As := [.int (bI (soP (nm (bk h k (σ 13) (σ 14) (σ 15)) j 1) e w)), .int (bI (soP (nm (bk h k (σ 13) (σ 14) (σ 15)) j 2) e w))]) (rest := []) (st' := [.int (bI (¬ (soP (nm (bk h k (σ 13) (σ 14) (σ 15)) j 1) e w) ∧ ¬ (soP (nm (bk h k (σ 13) (σ 14) (σ 15)) j 2) e w)))]) hC hK hZ hA hl.1 hH (k_X5_isWonBy l G (pk ad [11]) (pk σ [11]) (soP (nm (bk h k (σ 13) (σ 14) (σ 15)) j 1) e w) (soP (nm (bk h k (σ 13) (σ 14) (σ 15)) j 2) e w)) (lu_X10_82_X5 hC hK ⟨Nat.le_of_ble_eq_true rfl, Nat.le_of_ble_eq_true rfl⟩) [11] rfl rfl rfl 11 4 rfl rfl rfl ⟨Nat.le_refl _, Nat.le_refl _⟩ (Nat.le_of_ble_eq_true rfl) rfl dX10_isWay_64 (fun H locs hH => ?_)
        refine x_topE (y := (bI ((wonB (bk h k (σ 13) (σ 14) (σ 15)) j e w)))) (bI_e (wonB_c5 h5)) ?_
        refine lv_iload_n hx hb dX10_isWay_67 rfl (lv_at hl 6 rfl) ?_
        refine lv_iload hx hb dX10_isWay_68 (lv_at hl 7 rfl) ?_
        refine x_callN (ws' := WWB G ad σ) (As := [.int w, .int (nI j)]) (rest := [.int (bI ((wonB (bk h k (σ 13) (σ 14) (σ 15)) j e w)))]) (st' := [.int (bI (tb w (nI j))), .int (bI ((wonB (bk h k (σ 13) (σ 14) (σ 15)) j e w)))]) hC hK hZ hA hl.1 hH (k_X11_has l G (pk ad []) (pk σ []) w (nI j)) lk_X10_86 [] rfl rfl rfl rfl ⟨Nat.le_of_ble_eq_true rfl, Nat.le_of_ble_eq_true rfl⟩ ⟨Nat.le_refl _, Nat.le_refl _⟩ (Nat.le_of_ble_eq_true rfl) rfl dX10_isWay_70 (fun H locs hH => ?_)
        refine lv_icmp_eq (tgt := 78) hx hb dX10_isWay_73 (by decide) (fun c73 => ?_) (fun c73 => ?_)
        · refine lv_iinc (v := ((nI j) + 1)) (lv' := [(4, .int ((nI j) + 1)), (7, .int (bI (soP (nm (bk h k (σ 13) (σ 14) (σ 15)) j 2) e w))), (6, .int (bI (soP (nm (bk h k (σ 13) (σ 14) (σ 15)) j 1) e w))), (5, .ref (ad 11)), (0, .ref (ad 0)), (1, .ref (ad 12)), (2, .int e), (3, .int w)]) hx hb dX10_isWay_78 hl (k := 7) rfl rfl (by decide) rfl (fun ls hl => ?_)
          refine lv_goto (tgt := 3) hx hb dX10_isWay_81 (by decide) ?_
          exact ih_j (j + 1) (show (j + 1) ≤ k ∧ ∀ i, i < (j + 1) → (wonB (bk h k (σ 13) (σ 14) (σ 15)) i e w ↔ tb w (nI i)) from ⟨by omega, lt_s hi_j.2 (bI_inj.mp c73)⟩) (show k - (j + 1) < k - j from (by omega)) _ _ _ (hH.eq rfl) (lv_eq (lv_sub hl [4, 5, 6, 7, 0] rfl) (lc_s (lc_s (lc_s (lc_s (lc_i (by exact nI_1 _ : ((nI j) + 1) = (nI (j + 1))) rfl))))))
        · refine lv_iconst (v := 0) hx hb dX10_isWay_76 (by decide) ?_
          exact x_zret hC hr hkL hH nar_bI (bI_f (by exact fun z => c73 (bI_inj.mpr (z j lt_j)))) rfl dX10_isWay_77
  · exact hH.eq rfl
  · exact lv_eq (lv_sub hl [1, 2, 3, 4, 0] rfl) (lc_s (lc_s (lc_s (lc_s (lc_i (by rfl : 0 = (nI 0)) rfl)))))
set_option maxHeartbeats 4000000 in
set_option maxRecDepth 100000 in
theorem k_X10_findOf (l : Launch) (G : GP) (ad : Nat → Nat) (σ : Nat → Nat → Int32) (e : Int32) (h : Nat) (k : Nat) (ej : Nat) (hb3 : (σ 12 3) = nI h) (hb4 : (σ 12 4) = nI k) (hh4 : h ≤ 4) (hk6 : k ≤ 6) (hkd : KD (σ 14) k) (he : e = nI ej) (he16 : ej < 16) : CT l G yX10_findOf cX10_findOf 9 none 3 [.ref (ad 0), .ref (ad 12), .int e] (WWB G ad σ) none (WWB G ad (ua (ua (ua (ua σ 2 (upd (σ 2) ej (fwA (bk h k (σ 13) (σ 14) (σ 15)) e).1)) 3 (upd (σ 3) ej (fwA (bk h k (σ 13) (σ 14) (σ 15)) e).2.1)) 4 (upd (σ 4) ej (wonF (fwA (bk h k (σ 13) (σ 14) (σ 15)) e)))) 5 (upd (σ 5) ej (opF (fwA (bk h k (σ 13) (σ 14) (σ 15)) e) (nI (2 ^ k) - 1))))) := by
  refine x_meth "BetsOnBets$Ways" rfl (by decide +kernel) (by rfl) (Nat.le_of_ble_eq_true rfl) ?_
  intro pP eE sS mM args below meth cC A ls hC hr hkL hK hZ hA hH hl
  have hx := hC.1
  have hb := hC.2.1
  have hl : lv_has ls 9 [(0, .ref (ad 0)), (1, .ref (ad 12)), (2, .int e)] := hl
  have pwh := pw4 hh4
  have pwk := pw6 hk6
  have pk1 := Nat.one_le_two_pow (n := k)
  refine lv_iconst (v := 1) hx hb dX10_findOf_0 (by decide) ?_
  refine lv_aload_n hx hb dX10_findOf_1 rfl (lv_at hl 1 rfl) ?_
  refine gf_X10_62 (v := .int (σ 12 4)) hC hK hH 12 rfl rfl dX10_findOf_2 ?_
  refine x_topE (y := (nI k)) hb4 ?_
  refine lv_ishl hx hb dX10_findOf_5 ?_
  refine x_topE (y := (nI (2 ^ k))) (shB (by omega)) ?_
  refine lv_iconst (v := 1) hx hb dX10_findOf_6 (by decide) ?_
  refine lv_isub hx hb dX10_findOf_7 ?_
  refine lv_istore_n (lv' := [(3, .int ((nI (2 ^ k)) - 1)), (0, .ref (ad 0)), (1, .ref (ad 12)), (2, .int e)]) hx hb dX10_findOf_8 rfl hl (by decide) rfl (fun ls hl => ?_)
  refine lv_iconst (v := 0) hx hb dX10_findOf_9 (by decide) ?_
  refine lv_istore (lv' := [(4, .int 0), (3, .int ((nI (2 ^ k)) - 1)), (0, .ref (ad 0)), (1, .ref (ad 12)), (2, .int e)]) hx hb dX10_findOf_10 hl (by decide) rfl (fun ls hl => ?_)
  refine lv_bipush (v := (-9)) hx hb dX10_findOf_12 (by decide) ?_
  refine lv_istore (lv' := [(5, .int (-9)), (4, .int 0), (3, .int ((nI (2 ^ k)) - 1)), (0, .ref (ad 0)), (1, .ref (ad 12)), (2, .int e)]) hx hb dX10_findOf_14 hl (by decide) rfl (fun ls hl => ?_)
  refine lv_iload_n hx hb dX10_findOf_16 rfl (lv_at hl 2 rfl) ?_
  refine lv_istore (lv' := [(6, .int ((nI (2 ^ k)) - 1)), (5, .int (-9)), (4, .int 0), (3, .int ((nI (2 ^ k)) - 1)), (0, .ref (ad 0)), (1, .ref (ad 12)), (2, .int e)]) hx hb dX10_findOf_17 hl (by decide) rfl (fun ls hl => ?_)
  refine lv_iconst (v := 0) hx hb dX10_findOf_19 (by decide) ?_
  refine lv_istore (lv' := [(7, .int 0), (6, .int ((nI (2 ^ k)) - 1)), (5, .int (-9)), (4, .int 0), (3, .int ((nI (2 ^ k)) - 1)), (0, .ref (ad 0)), (1, .ref (ad 12)), (2, .int e)]) hx hb dX10_findOf_20 hl (by decide) rfl (fun ls hl => ?_)
  refine lv_iconst (v := 0) hx hb dX10_findOf_22 (by decide) ?_
  refine lv_istore (lv' := [(8, .int 0), (7, .int 0), (6, .int ((nI (2 ^ k)) - 1)), (5, .int (-9)), (4, .int 0), (3, .int ((nI (2 ^ k)) - 1)), (0, .ref (ad 0)), (1, .ref (ad 12)), (2, .int e)]) hx hb dX10_findOf_23 hl (by decide) rfl (fun ls hl => ?_)
  refine x_loop (G := G) (A := A) (H0 := sS.heap) (nL := 9) (α := Nat) (fun q_ => (2 ^ k) - q_) (fun q_ => q_ ≤ (2 ^ k)) (fun q_ => WWB G ad σ) (fun q_ => [(0, .ref (ad 0)), (1, .ref (ad 12)), (2, .int e), (3, .int ((nI (2 ^ k)) - 1)), (4, .int ((fw (bk h k (σ 13) (σ 14) (σ 15)) e q_).1)), (5, .int ((fw (bk h k (σ 13) (σ 14) (σ 15)) e q_).2.1)), (6, .int ((fw (bk h k (σ 13) (σ 14) (σ 15)) e q_).2.2.2)), (7, .int ((fw (bk h k (σ 13) (σ 14) (σ 15)) e q_).2.2.1)), (8, .int (nI q_))]) ?_ 0 (show 0 ≤ (2 ^ k) from (Nat.zero_le _)) ?_ ?_
  · rintro w hi_w ih_w H locs ls hH hl
    replace hi_w : w ≤ (2 ^ k) := hi_w
    replace hH : Hx G A (WWB G ad σ) sS.heap H locs := hH
    replace hl : lv_has ls 9 [(0, .ref (ad 0)), (1, .ref (ad 12)), (2, .int e), (3, .int ((nI (2 ^ k)) - 1)), (4, .int ((fw (bk h k (σ 13) (σ 14) (σ 15)) e w).1)), (5, .int ((fw (bk h k (σ 13) (σ 14) (σ 15)) e w).2.1)), (6, .int ((fw (bk h k (σ 13) (σ 14) (σ 15)) e w).2.2.2)), (7, .int ((fw (bk h k (σ 13) (σ 14) (σ 15)) e w).2.2.1)), (8, .int (nI w))] := hl
    refine lv_iload hx hb dX10_findOf_25 (lv_at hl 8 rfl) ?_
    refine lv_iload_n hx hb dX10_findOf_27 rfl (lv_at hl 3 rfl) ?_
    refine lv_icmp_gt (tgt := 79) hx hb dX10_findOf_28 (by decide) (fun c28 => ?_) (fun c28 => ?_)
    · have ge_w := lp_out1 (n := 2 ^ k - 1) (g_pred (by omega)) (by omega) (by omega) c28
      have eq_w : w = 2 ^ k := by omega
      have fe_ : fw (bk h k (σ 13) (σ 14) (σ 15)) e w = fwA (bk h k (σ 13) (σ 14) (σ 15)) e := by rw [eq_w]; rfl
      rw [fe_] at hl
      replace hl : lv_has ls 9 [(0, .ref (ad 0)), (1, .ref (ad 12)), (2, .int e), (3, .int ((nI (2 ^ k)) - 1)), (4, .int ((fwA (bk h k (σ 13) (σ 14) (σ 15)) e).1)), (5, .int ((fwA (bk h k (σ 13) (σ 14) (σ 15)) e).2.1)), (6, .int ((fwA (bk h k (σ 13) (σ 14) (σ 15)) e).2.2.2)), (7, .int ((fwA (bk h k (σ 13) (σ 14) (σ 15)) e).2.2.1)), (8, .int (nI w))] := hl
      refine lv_aload_n hx hb dX10_findOf_79 rfl (lv_at hl 0 rfl) ?_
      refine gf_X10_35 (v := .ref (ad 2)) hC hK hH 0 rfl rfl dX10_findOf_80 ?_
      refine lv_iload_n hx hb dX10_findOf_83 rfl (lv_at hl 2 rfl) ?_
      refine lv_iload hx hb dX10_findOf_84 (lv_at hl 4 rfl) ?_
      refine x_callN (ws' := WWB G ad (ua σ 2 (putF (σ 2) 16 e ((fwA (bk h k (σ 13) (σ 14) (σ 15)) e).1)))) (As := [.ref (ad 2), .int e, .int ((fwA (bk h k (σ 13) (σ 14) (σ 15)) e).1)]) (rest := []) (st' := []) hC hK hZ hA hl.1 hH (k_X11_put l G 16 (pk ad [2]) (pk σ [2]) e ((fwA (bk h k (σ 13) (σ 14) (σ 15)) e).1) (by decide)) lk_X10_48 [2] rfl rfl rfl rfl ⟨Nat.le_of_ble_eq_true rfl, Nat.le_of_ble_eq_true rfl⟩ ⟨Nat.le_refl _, Nat.le_refl _⟩ (Nat.le_of_ble_eq_true rfl) rfl dX10_findOf_86 (fun H locs hH => ?_)
      replace hH : Hx G A (WWB G ad (ua σ 2 (upd (σ 2) ej (fwA (bk h k (σ 13) (σ 14) (σ 15)) e).1))) sS.heap H locs := hH.eq (congrArg (fun z_ : Nat → Int32 => WWB G ad (ua σ 2 z_)) (by exact putF_in he he16 (by decide) : (putF (σ 2) 16 e ((fwA (bk h k (σ 13) (σ 14) (σ 15)) e).1)) = (upd (σ 2) ej (fwA (bk h k (σ 13) (σ 14) (σ 15)) e).1)))
      refine lv_aload_n hx hb dX10_findOf_89 rfl (lv_at hl 0 rfl) ?_
      refine gf_X10_39 (v := .ref (ad 3)) hC hK hH 0 rfl rfl dX10_findOf_90 ?_
      refine lv_iload_n hx hb dX10_findOf_93 rfl (lv_at hl 2 rfl) ?_
      refine lv_iload hx hb dX10_findOf_94 (lv_at hl 5 rfl) ?_
      refine x_callN (ws' := WWB G ad (ua (ua σ 2 (upd (σ 2) ej (fwA (bk h k (σ 13) (σ 14) (σ 15)) e).1)) 3 (putF (σ 3) 16 e ((fwA (bk h k (σ 13) (σ 14) (σ 15)) e).2.1)))) (As := [.ref (ad 3), .int e, .int ((fwA (bk h k (σ 13) (σ 14) (σ 15)) e).2.1)]) (rest := []) (st' := []) hC hK hZ hA hl.1 hH (k_X11_put l G 16 (pk ad [3]) (pk (ua σ 2 (upd (σ 2) ej (fwA (bk h k (σ 13) (σ 14) (σ 15)) e).1)) [3]) e ((fwA (bk h k (σ 13) (σ 14) (σ 15)) e).2.1) (by decide)) lk_X10_48 [3] rfl rfl rfl rfl ⟨Nat.le_of_ble_eq_true rfl, Nat.le_of_ble_eq_true rfl⟩ ⟨Nat.le_refl _, Nat.le_refl _⟩ (Nat.le_of_ble_eq_true rfl) rfl dX10_findOf_96 (fun H locs hH => ?_)
      replace hH : Hx G A (WWB G ad (ua (ua σ 2 (upd (σ 2) ej (fwA (bk h k (σ 13) (σ 14) (σ 15)) e).1)) 3 (upd (σ 3) ej (fwA (bk h k (σ 13) (σ 14) (σ 15)) e).2.1))) sS.heap H locs := hH.eq (congrArg (fun z_ : Nat → Int32 => WWB G ad (ua (ua σ 2 (upd (σ 2) ej (fwA (bk h k (σ 13) (σ 14) (σ 15)) e).1)) 3 z_)) (by exact putF_in he he16 (by decide) : (putF (σ 3) 16 e ((fwA (bk h k (σ 13) (σ 14) (σ 15)) e).2.1)) = (upd (σ 3) ej (fwA (bk h k (σ 13) (σ 14) (σ 15)) e).2.1)))
      refine lv_aload_n hx hb dX10_findOf_99 rfl (lv_at hl 0 rfl) ?_
      refine gf_X10_42 (v := .ref (ad 4)) hC hK hH 0 rfl rfl dX10_findOf_100 ?_
      refine lv_iload_n hx hb dX10_findOf_103 rfl (lv_at hl 2 rfl) ?_
      refine x_meet1 (G := G) (A := A) (H0 := sS.heap) (nL := 9) (WWB G ad (ua (ua σ 2 (upd (σ 2) ej (fwA (bk h k (σ 13) (σ 14) (σ 15)) e).1)) 3 (upd (σ 3) ej (fwA (bk h k (σ 13) (σ 14) (σ 15)) e).2.1))) [(0, .ref (ad 0)), (1, .ref (ad 12)), (2, .int e), (3, .int ((nI (2 ^ k)) - 1)), (4, .int ((fwA (bk h k (σ 13) (σ 14) (σ 15)) e).1)), (5, .int ((fwA (bk h k (σ 13) (σ 14) (σ 15)) e).2.1)), (6, .int ((fwA (bk h k (σ 13) (σ 14) (σ 15)) e).2.2.2)), (7, .int ((fwA (bk h k (σ 13) (σ 14) (σ 15)) e).2.2.1)), (8, .int (nI w))] 115 [.int (wonF (fwA (bk h k (σ 13) (σ 14) (σ 15)) e)), .int e, .ref (ad 4)] ?_ ?_
      · intro H locs ls hH hl
        refine x_callN (ws' := WWB G ad (ua (ua (ua σ 2 (upd (σ 2) ej (fwA (bk h k (σ 13) (σ 14) (σ 15)) e).1)) 3 (upd (σ 3) ej (fwA (bk h k (σ 13) (σ 14) (σ 15)) e).2.1)) 4 (putF (σ 4) 16 e (wonF (fwA (bk h k (σ 13) (σ 14) (σ 15)) e))))) (As := [.ref (ad 4), .int e, .int (wonF (fwA (bk h k (σ 13) (σ 14) (σ 15)) e))]) (rest := []) (st' := []) hC hK hZ hA hl.1 hH (k_X11_put l G 16 (pk ad [4]) (pk (ua (ua σ 2 (upd (σ 2) ej (fwA (bk h k (σ 13) (σ 14) (σ 15)) e).1)) 3 (upd (σ 3) ej (fwA (bk h k (σ 13) (σ 14) (σ 15)) e).2.1)) [4]) e (wonF (fwA (bk h k (σ 13) (σ 14) (σ 15)) e)) (by decide)) lk_X10_48 [4] rfl rfl rfl rfl ⟨Nat.le_of_ble_eq_true rfl, Nat.le_of_ble_eq_true rfl⟩ ⟨Nat.le_refl _, Nat.le_refl _⟩ (Nat.le_of_ble_eq_true rfl) rfl dX10_findOf_115 (fun H locs hH => ?_)
        replace hH : Hx G A (WWB G ad (ua (ua (ua σ 2 (upd (σ 2) ej (fwA (bk h k (σ 13) (σ 14) (σ 15)) e).1)) 3 (upd (σ 3) ej (fwA (bk h k (σ 13) (σ 14) (σ 15)) e).2.1)) 4 (upd (σ 4) ej (wonF (fwA (bk h k (σ 13) (σ 14) (σ 15)) e))))) sS.heap H locs := hH.eq (congrArg (fun z_ : Nat → Int32 => WWB G ad (ua (ua (ua σ 2 (upd (σ 2) ej (fwA (bk h k (σ 13) (σ 14) (σ 15)) e).1)) 3 (upd (σ 3) ej (fwA (bk h k (σ 13) (σ 14) (σ 15)) e).2.1)) 4 z_)) (by exact putF_in he he16 (by decide) : (putF (σ 4) 16 e (wonF (fwA (bk h k (σ 13) (σ 14) (σ 15)) e))) = (upd (σ 4) ej (wonF (fwA (bk h k (σ 13) (σ 14) (σ 15)) e)))))
        refine lv_aload_n hx hb dX10_findOf_118 rfl (lv_at hl 0 rfl) ?_
        refine gf_X10_45 (v := .ref (ad 5)) hC hK hH 0 rfl rfl dX10_findOf_119 ?_
        refine lv_iload_n hx hb dX10_findOf_122 rfl (lv_at hl 2 rfl) ?_
        refine x_meet1 (G := G) (A := A) (H0 := sS.heap) (nL := 9) (WWB G ad (ua (ua (ua σ 2 (upd (σ 2) ej (fwA (bk h k (σ 13) (σ 14) (σ 15)) e).1)) 3 (upd (σ 3) ej (fwA (bk h k (σ 13) (σ 14) (σ 15)) e).2.1)) 4 (upd (σ 4) ej (wonF (fwA (bk h k (σ 13) (σ 14) (σ 15)) e))))) [(0, .ref (ad 0)), (1, .ref (ad 12)), (2, .int e), (3, .int ((nI (2 ^ k)) - 1)), (4, .int ((fwA (bk h k (σ 13) (σ 14) (σ 15)) e).1)), (5, .int ((fwA (bk h k (σ 13) (σ 14) (σ 15)) e).2.1)), (6, .int ((fwA (bk h k (σ 13) (σ 14) (σ 15)) e).2.2.2)), (7, .int ((fwA (bk h k (σ 13) (σ 14) (σ 15)) e).2.2.1)), (8, .int (nI w))] 137 [.int (opF (fwA (bk h k (σ 13) (σ 14) (σ 15)) e) (nI (2 ^ k) - 1)), .int e, .ref (ad 5)] ?_ ?_
        · intro H locs ls hH hl
          refine x_callN (ws' := WWB G ad (ua (ua (ua (ua σ 2 (upd (σ 2) ej (fwA (bk h k (σ 13) (σ 14) (σ 15)) e).1)) 3 (upd (σ 3) ej (fwA (bk h k (σ 13) (σ 14) (σ 15)) e).2.1)) 4 (upd (σ 4) ej (wonF (fwA (bk h k (σ 13) (σ 14) (σ 15)) e)))) 5 (putF (σ 5) 16 e (opF (fwA (bk h k (σ 13) (σ 14) (σ 15)) e) (nI (2 ^ k) - 1))))) (As := [.ref (ad 5), .int e, .int (opF (fwA (bk h k (σ 13) (σ 14) (σ 15)) e) (nI (2 ^ k) - 1))]) (rest := []) (st' := []) hC hK hZ hA hl.1 hH (k_X11_put l G 16 (pk ad [5]) (pk (ua (ua (ua σ 2 (upd (σ 2) ej (fwA (bk h k (σ 13) (σ 14) (σ 15)) e).1)) 3 (upd (σ 3) ej (fwA (bk h k (σ 13) (σ 14) (σ 15)) e).2.1)) 4 (upd (σ 4) ej (wonF (fwA (bk h k (σ 13) (σ 14) (σ 15)) e)))) [5]) e (opF (fwA (bk h k (σ 13) (σ 14) (σ 15)) e) (nI (2 ^ k) - 1)) (by decide)) lk_X10_48 [5] rfl rfl rfl rfl ⟨Nat.le_of_ble_eq_true rfl, Nat.le_of_ble_eq_true rfl⟩ ⟨Nat.le_refl _, Nat.le_refl _⟩ (Nat.le_of_ble_eq_true rfl) rfl dX10_findOf_137 (fun H locs hH => ?_)
          replace hH : Hx G A (WWB G ad (ua (ua (ua (ua σ 2 (upd (σ 2) ej (fwA (bk h k (σ 13) (σ 14) (σ 15)) e).1)) 3 (upd (σ 3) ej (fwA (bk h k (σ 13) (σ 14) (σ 15)) e).2.1)) 4 (upd (σ 4) ej (wonF (fwA (bk h k (σ 13) (σ 14) (σ 15)) e)))) 5 (upd (σ 5) ej (opF (fwA (bk h k (σ 13) (σ 14) (σ 15)) e) (nI (2 ^ k) - 1))))) sS.heap H locs := hH.eq (congrArg (fun z_ : Nat → Int32 => WWB G ad (ua (ua (ua (ua σ 2 (upd (σ 2) ej (fwA (bk h k (σ 13) (σ 14) (σ 15)) e).1)) 3 (upd (σ 3) ej (fwA (bk h k (σ 13) (σ 14) (σ 15)) e).2.1)) 4 (upd (σ 4) ej (wonF (fwA (bk h k (σ 13) (σ 14) (σ 15)) e)))) 5 z_)) (by exact putF_in he he16 (by decide) : (putF (σ 5) 16 e (opF (fwA (bk h k (σ 13) (σ 14) (σ 15)) e) (nI (2 ^ k) - 1))) = (upd (σ 5) ej (opF (fwA (bk h k (σ 13) (σ 14) (σ 15)) e) (nI (2 ^ k) - 1)))))
          exact x_vret hC hr hkL hH rfl dX10_findOf_140
        · intro kJ123
          refine lv_iload hx hb dX10_findOf_123 (lv_at hl 4 rfl) ?_
          refine lv_if_le (tgt := 136) hx hb dX10_findOf_125 (by decide) (fun c125 => ?_) (fun c125 => ?_)
          · refine lv_iload_n hx hb dX10_findOf_136 rfl (lv_at hl 3 rfl) ?_
            refine x_topE (y := (opF (fwA (bk h k (σ 13) (σ 14) (σ 15)) e) (nI (2 ^ k) - 1))) (by first | exact (if_neg (Int32.not_lt.mpr c125)).symm | exact (if_pos (Int32.not_le.mp c125)).symm) ?_
            exact kJ123 _ _ _ (hH.eq rfl) (lv_eq (lv_sub hl [0, 1, 2, 3, 4, 5, 6, 7, 8] rfl) (lc_s (lc_s (lc_s (lc_s (lc_s (lc_s (lc_s (lc_s (lc_s rfl))))))))))
          · refine lv_iload hx hb dX10_findOf_128 (lv_at hl 7 rfl) ?_
            refine lv_iload hx hb dX10_findOf_130 (lv_at hl 6 rfl) ?_
            refine lv_isub hx hb dX10_findOf_132 ?_
            refine lv_goto (tgt := 137) hx hb dX10_findOf_133 (by decide) ?_
            refine x_topE (y := (opF (fwA (bk h k (σ 13) (σ 14) (σ 15)) e) (nI (2 ^ k) - 1))) (by first | exact (if_neg (Int32.not_lt.mpr c125)).symm | exact (if_pos (Int32.not_le.mp c125)).symm) ?_
            exact kJ123 _ _ _ (hH.eq rfl) (lv_eq (lv_sub hl [0, 1, 2, 3, 4, 5, 6, 7, 8] rfl) (lc_s (lc_s (lc_s (lc_s (lc_s (lc_s (lc_s (lc_s (lc_s rfl))))))))))
      · intro kJ104
        refine lv_iload hx hb dX10_findOf_104 (lv_at hl 4 rfl) ?_
        refine lv_if_le (tgt := 114) hx hb dX10_findOf_106 (by decide) (fun c106 => ?_) (fun c106 => ?_)
        · refine lv_iconst (v := 0) hx hb dX10_findOf_114 (by decide) ?_
          refine x_topE (y := (wonF (fwA (bk h k (σ 13) (σ 14) (σ 15)) e))) (by first | exact (if_neg (Int32.not_lt.mpr c106)).symm | exact (if_pos (Int32.not_le.mp c106)).symm) ?_
          exact kJ104 _ _ _ (hH.eq rfl) (lv_eq (lv_sub hl [0, 1, 2, 3, 4, 5, 6, 7, 8] rfl) (lc_s (lc_s (lc_s (lc_s (lc_s (lc_s (lc_s (lc_s (lc_s rfl))))))))))
        · refine lv_iload hx hb dX10_findOf_109 (lv_at hl 6 rfl) ?_
          refine lv_goto (tgt := 115) hx hb dX10_findOf_111 (by decide) ?_
          refine x_topE (y := (wonF (fwA (bk h k (σ 13) (σ 14) (σ 15)) e))) (by first | exact (if_neg (Int32.not_lt.mpr c106)).symm | exact (if_pos (Int32.not_le.mp c106)).symm) ?_
          exact kJ104 _ _ _ (hH.eq rfl) (lv_eq (lv_sub hl [0, 1, 2, 3, 4, 5, 6, 7, 8] rfl) (lc_s (lc_s (lc_s (lc_s (lc_s (lc_s (lc_s (lc_s (lc_s rfl))))))))))
    · have lt_w := lp_in1 (n := 2 ^ k - 1) (g_pred (by omega)) (by omega) (by omega) c28
      refine lv_aload_n hx hb dX10_findOf_31 rfl (lv_at hl 0 rfl) ?_
      refine lv_aload_n hx hb dX10_findOf_32 rfl (lv_at hl 1 rfl) ?_
      refine lv_iload_n hx hb dX10_findOf_33 rfl (lv_at hl 2 rfl) ?_
      refine lv_iload hx hb dX10_findOf_34 (lv_at hl 8 rfl) ?_
      refine x_callVA (ws' := WWB G ad σ) (As := [.ref (ad 12), .int e, .int (nI w)]) (rest := []) (st' := [.int (bI (isWayP (bk h k (σ 13) (σ 14) (σ 15)) e (nI w)))]) hC hK hZ hA hl.1 hH (k_X10_isWay l G ad σ e (nI w) h k hb3 hb4 hh4 hk6 hkd) lk_X10_66 rfl 0 9 rfl rfl rfl ⟨Nat.le_of_ble_eq_true rfl, Nat.le_of_ble_eq_true rfl⟩ ⟨Nat.le_refl _, Nat.le_refl _⟩ (Nat.le_of_ble_eq_true rfl) rfl dX10_findOf_36 (fun H locs hH => ?_)
      refine x_beq (tgt := 73) hC dX10_findOf_39 (by decide) (fun c39 => ?_) (fun c39 => ?_)
      · refine lv_iinc (v := ((nI w) + 1)) (lv' := [(8, .int ((nI w) + 1)), (0, .ref (ad 0)), (1, .ref (ad 12)), (2, .int e), (3, .int ((nI (2 ^ k)) - 1)), (4, .int ((fw (bk h k (σ 13) (σ 14) (σ 15)) e w).1)), (5, .int ((fw (bk h k (σ 13) (σ 14) (σ 15)) e w).2.1)), (6, .int ((fw (bk h k (σ 13) (σ 14) (σ 15)) e w).2.2.2)), (7, .int ((fw (bk h k (σ 13) (σ 14) (σ 15)) e w).2.2.1))]) hx hb dX10_findOf_73 hl (k := 8) rfl rfl (by decide) rfl (fun ls hl => ?_)
        refine lv_goto (tgt := 25) hx hb dX10_findOf_76 (by decide) ?_
        exact ih_w (w + 1) (show (w + 1) ≤ (2 ^ k) from (by omega)) (show (2 ^ k) - (w + 1) < (2 ^ k) - w from (by omega)) _ _ _ (hH.eq rfl) (lv_eq (lv_sub hl [1, 2, 3, 4, 5, 6, 7, 8, 0] rfl) (lc_s (lc_s (lc_s (lc_s (lc_i (by first | (rw [fw_f c39]; done) | (rw [fw_t c39]; done) : (fw (bk h k (σ 13) (σ 14) (σ 15)) e w).1 = (fw (bk h k (σ 13) (σ 14) (σ 15)) e (w + 1)).1) (lc_i (by first | (rw [fw_f c39]; done) | (rw [fw_t c39, if_pos (fw_nz (by omega) c44)]; done) | (rw [fw_t c39, if_neg (fw_z (by omega) c44)]; done) : (fw (bk h k (σ 13) (σ 14) (σ 15)) e w).2.1 = (fw (bk h k (σ 13) (σ 14) (σ 15)) e (w + 1)).2.1) (lc_i (by first | (rw [fw_f c39]; done) | (rw [fw_t c39]; done) : (fw (bk h k (σ 13) (σ 14) (σ 15)) e w).2.2.2 = (fw (bk h k (σ 13) (σ 14) (σ 15)) e (w + 1)).2.2.2) (lc_i (by first | (rw [fw_f c39]; done) | (rw [fw_t c39]; done) : (fw (bk h k (σ 13) (σ 14) (σ 15)) e w).2.2.1 = (fw (bk h k (σ 13) (σ 14) (σ 15)) e (w + 1)).2.2.1) (lc_i (by exact nI_1 _ : ((nI w) + 1) = (nI (w + 1))) rfl))))))))))
      · refine lv_iload hx hb dX10_findOf_42 (lv_at hl 4 rfl) ?_
        refine lv_if_ne (tgt := 52) hx hb dX10_findOf_44 (by decide) (fun c44 => ?_) (fun c44 => ?_)
        · refine lv_iload hx hb dX10_findOf_52 (lv_at hl 5 rfl) ?_
          refine lv_istore (lv' := [(5, .int ((fw (bk h k (σ 13) (σ 14) (σ 15)) e w).2.1)), (0, .ref (ad 0)), (1, .ref (ad 12)), (2, .int e), (3, .int ((nI (2 ^ k)) - 1)), (4, .int ((fw (bk h k (σ 13) (σ 14) (σ 15)) e w).1)), (6, .int ((fw (bk h k (σ 13) (σ 14) (σ 15)) e w).2.2.2)), (7, .int ((fw (bk h k (σ 13) (σ 14) (σ 15)) e w).2.2.1)), (8, .int (nI w))]) hx hb dX10_findOf_54 hl (by decide) rfl (fun ls hl => ?_)
          refine lv_iinc (v := (((fw (bk h k (σ 13) (σ 14) (σ 15)) e w).1) + 1)) (lv' := [(4, .int (((fw (bk h k (σ 13) (σ 14) (σ 15)) e w).1) + 1)), (5, .int ((fw (bk h k (σ 13) (σ 14) (σ 15)) e w).2.1)), (0, .ref (ad 0)), (1, .ref (ad 12)), (2, .int e), (3, .int ((nI (2 ^ k)) - 1)), (6, .int ((fw (bk h k (σ 13) (σ 14) (σ 15)) e w).2.2.2)), (7, .int ((fw (bk h k (σ 13) (σ 14) (σ 15)) e w).2.2.1)), (8, .int (nI w))]) hx hb dX10_findOf_56 hl (k := 5) rfl rfl (by decide) rfl (fun ls hl => ?_)
          refine lv_iload hx hb dX10_findOf_59 (lv_at hl 6 rfl) ?_
          refine lv_iload hx hb dX10_findOf_61 (lv_at hl 8 rfl) ?_
          refine lv_iand hx hb dX10_findOf_63 ?_
          refine lv_istore (lv' := [(6, .int (((fw (bk h k (σ 13) (σ 14) (σ 15)) e w).2.2.2) &&& (nI w))), (4, .int (((fw (bk h k (σ 13) (σ 14) (σ 15)) e w).1) + 1)), (5, .int ((fw (bk h k (σ 13) (σ 14) (σ 15)) e w).2.1)), (0, .ref (ad 0)), (1, .ref (ad 12)), (2, .int e), (3, .int ((nI (2 ^ k)) - 1)), (7, .int ((fw (bk h k (σ 13) (σ 14) (σ 15)) e w).2.2.1)), (8, .int (nI w))]) hx hb dX10_findOf_64 hl (by decide) rfl (fun ls hl => ?_)
          refine lv_iload hx hb dX10_findOf_66 (lv_at hl 7 rfl) ?_
          refine lv_iload hx hb dX10_findOf_68 (lv_at hl 8 rfl) ?_
          refine lv_ior hx hb dX10_findOf_70 ?_
          refine lv_istore (lv' := [(7, .int (((fw (bk h k (σ 13) (σ 14) (σ 15)) e w).2.2.1) ||| (nI w))), (6, .int (((fw (bk h k (σ 13) (σ 14) (σ 15)) e w).2.2.2) &&& (nI w))), (4, .int (((fw (bk h k (σ 13) (σ 14) (σ 15)) e w).1) + 1)), (5, .int ((fw (bk h k (σ 13) (σ 14) (σ 15)) e w).2.1)), (0, .ref (ad 0)), (1, .ref (ad 12)), (2, .int e), (3, .int ((nI (2 ^ k)) - 1)), (8, .int (nI w))]) hx hb dX10_findOf_71 hl (by decide) rfl (fun ls hl => ?_)
          refine lv_iinc (v := ((nI w) + 1)) (lv' := [(8, .int ((nI w) + 1)), (7, .int (((fw (bk h k (σ 13) (σ 14) (σ 15)) e w).2.2.1) ||| (nI w))), (6, .int (((fw (bk h k (σ 13) (σ 14) (σ 15)) e w).2.2.2) &&& (nI w))), (4, .int (((fw (bk h k (σ 13) (σ 14) (σ 15)) e w).1) + 1)), (5, .int ((fw (bk h k (σ 13) (σ 14) (σ 15)) e w).2.1)), (0, .ref (ad 0)), (1, .ref (ad 12)), (2, .int e), (3, .int ((nI (2 ^ k)) - 1))]) hx hb dX10_findOf_73 hl (k := 8) rfl rfl (by decide) rfl (fun ls hl => ?_)
          refine lv_goto (tgt := 25) hx hb dX10_findOf_76 (by decide) ?_
          exact ih_w (w + 1) (show (w + 1) ≤ (2 ^ k) from (by omega)) (show (2 ^ k) - (w + 1) < (2 ^ k) - w from (by omega)) _ _ _ (hH.eq rfl) (lv_eq (lv_sub hl [5, 6, 7, 8, 3, 4, 2, 1, 0] rfl) (lc_s (lc_s (lc_s (lc_s (lc_i (by first | (rw [fw_f c39]; done) | (rw [fw_t c39]; done) : (((fw (bk h k (σ 13) (σ 14) (σ 15)) e w).1) + 1) = (fw (bk h k (σ 13) (σ 14) (σ 15)) e (w + 1)).1) (lc_i (by first | (rw [fw_f c39]; done) | (rw [fw_t c39, if_pos (fw_nz (by omega) c44)]; done) | (rw [fw_t c39, if_neg (fw_z (by omega) c44)]; done) : (fw (bk h k (σ 13) (σ 14) (σ 15)) e w).2.1 = (fw (bk h k (σ 13) (σ 14) (σ 15)) e (w + 1)).2.1) (lc_i (by first | (rw [fw_f c39]; done) | (rw [fw_t c39]; done) : (((fw (bk h k (σ 13) (σ 14) (σ 15)) e w).2.2.2) &&& (nI w)) = (fw (bk h k (σ 13) (σ 14) (σ 15)) e (w + 1)).2.2.2) (lc_i (by first | (rw [fw_f c39]; done) | (rw [fw_t c39]; done) : (((fw (bk h k (σ 13) (σ 14) (σ 15)) e w).2.2.1) ||| (nI w)) = (fw (bk h k (σ 13) (σ 14) (σ 15)) e (w + 1)).2.2.1) (lc_i (by exact nI_1 _ : ((nI w) + 1) = (nI (w + 1))) rfl))))))))))
        · refine lv_iload hx hb dX10_findOf_47 (lv_at hl 8 rfl) ?_
          refine lv_goto (tgt := 54) hx hb dX10_findOf_49 (by decide) ?_
          refine lv_istore (lv' := [(5, .int (nI w)), (0, .ref (ad 0)), (1, .ref (ad 12)), (2, .int e), (3, .int ((nI (2 ^ k)) - 1)), (4, .int ((fw (bk h k (σ 13) (σ 14) (σ 15)) e w).1)), (6, .int ((fw (bk h k (σ 13) (σ 14) (σ 15)) e w).2.2.2)), (7, .int ((fw (bk h k (σ 13) (σ 14) (σ 15)) e w).2.2.1)), (8, .int (nI w))]) hx hb dX10_findOf_54 hl (by decide) rfl (fun ls hl => ?_)
          refine lv_iinc (v := (((fw (bk h k (σ 13) (σ 14) (σ 15)) e w).1) + 1)) (lv' := [(4, .int (((fw (bk h k (σ 13) (σ 14) (σ 15)) e w).1) + 1)), (5, .int (nI w)), (0, .ref (ad 0)), (1, .ref (ad 12)), (2, .int e), (3, .int ((nI (2 ^ k)) - 1)), (6, .int ((fw (bk h k (σ 13) (σ 14) (σ 15)) e w).2.2.2)), (7, .int ((fw (bk h k (σ 13) (σ 14) (σ 15)) e w).2.2.1)), (8, .int (nI w))]) hx hb dX10_findOf_56 hl (k := 5) rfl rfl (by decide) rfl (fun ls hl => ?_)
          refine lv_iload hx hb dX10_findOf_59 (lv_at hl 6 rfl) ?_
          refine lv_iload hx hb dX10_findOf_61 (lv_at hl 8 rfl) ?_
          refine lv_iand hx hb dX10_findOf_63 ?_
          refine lv_istore (lv' := [(6, .int (((fw (bk h k (σ 13) (σ 14) (σ 15)) e w).2.2.2) &&& (nI w))), (4, .int (((fw (bk h k (σ 13) (σ 14) (σ 15)) e w).1) + 1)), (5, .int (nI w)), (0, .ref (ad 0)), (1, .ref (ad 12)), (2, .int e), (3, .int ((nI (2 ^ k)) - 1)), (7, .int ((fw (bk h k (σ 13) (σ 14) (σ 15)) e w).2.2.1)), (8, .int (nI w))]) hx hb dX10_findOf_64 hl (by decide) rfl (fun ls hl => ?_)
          refine lv_iload hx hb dX10_findOf_66 (lv_at hl 7 rfl) ?_
          refine lv_iload hx hb dX10_findOf_68 (lv_at hl 8 rfl) ?_
          refine lv_ior hx hb dX10_findOf_70 ?_
          refine lv_istore (lv' := [(7, .int (((fw (bk h k (σ 13) (σ 14) (σ 15)) e w).2.2.1) ||| (nI w))), (6, .int (((fw (bk h k (σ 13) (σ 14) (σ 15)) e w).2.2.2) &&& (nI w))), (4, .int (((fw (bk h k (σ 13) (σ 14) (σ 15)) e w).1) + 1)), (5, .int (nI w)), (0, .ref (ad 0)), (1, .ref (ad 12)), (2, .int e), (3, .int ((nI (2 ^ k)) - 1)), (8, .int (nI w))]) hx hb dX10_findOf_71 hl (by decide) rfl (fun ls hl => ?_)
          refine lv_iinc (v := ((nI w) + 1)) (lv' := [(8, .int ((nI w) + 1)), (7, .int (((fw (bk h k (σ 13) (σ 14) (σ 15)) e w).2.2.1) ||| (nI w))), (6, .int (((fw (bk h k (σ 13) (σ 14) (σ 15)) e w).2.2.2) &&& (nI w))), (4, .int (((fw (bk h k (σ 13) (σ 14) (σ 15)) e w).1) + 1)), (5, .int (nI w)), (0, .ref (ad 0)), (1, .ref (ad 12)), (2, .int e), (3, .int ((nI (2 ^ k)) - 1))]) hx hb dX10_findOf_73 hl (k := 8) rfl rfl (by decide) rfl (fun ls hl => ?_)
          refine lv_goto (tgt := 25) hx hb dX10_findOf_76 (by decide) ?_
          exact ih_w (w + 1) (show (w + 1) ≤ (2 ^ k) from (by omega)) (show (2 ^ k) - (w + 1) < (2 ^ k) - w from (by omega)) _ _ _ (hH.eq rfl) (lv_eq (lv_sub hl [5, 6, 7, 8, 3, 4, 2, 1, 0] rfl) (lc_s (lc_s (lc_s (lc_s (lc_i (by first | (rw [fw_f c39]; done) | (rw [fw_t c39]; done) : (((fw (bk h k (σ 13) (σ 14) (σ 15)) e w).1) + 1) = (fw (bk h k (σ 13) (σ 14) (σ 15)) e (w + 1)).1) (lc_i (by first | (rw [fw_f c39]; done) | (rw [fw_t c39, if_pos (fw_nz (by omega) c44)]; done) | (rw [fw_t c39, if_neg (fw_z (by omega) c44)]; done) : (nI w) = (fw (bk h k (σ 13) (σ 14) (σ 15)) e (w + 1)).2.1) (lc_i (by first | (rw [fw_f c39]; done) | (rw [fw_t c39]; done) : (((fw (bk h k (σ 13) (σ 14) (σ 15)) e w).2.2.2) &&& (nI w)) = (fw (bk h k (σ 13) (σ 14) (σ 15)) e (w + 1)).2.2.2) (lc_i (by first | (rw [fw_f c39]; done) | (rw [fw_t c39]; done) : (((fw (bk h k (σ 13) (σ 14) (σ 15)) e w).2.2.1) ||| (nI w)) = (fw (bk h k (σ 13) (σ 14) (σ 15)) e (w + 1)).2.2.1) (lc_i (by exact nI_1 _ : ((nI w) + 1) = (nI (w + 1))) rfl))))))))))
  · exact hH.eq rfl
  · exact lv_eq (lv_sub hl [6, 7, 8, 5, 4, 3, 2, 1, 0] rfl) (lc_s (lc_s (lc_s (lc_s (lc_i (by rfl : 0 = (fw (bk h k (σ 13) (σ 14) (σ 15)) e 0).1) (lc_i (by rfl : (-9) = (fw (bk h k (σ 13) (σ 14) (σ 15)) e 0).2.1) (lc_i (by rfl : ((nI (2 ^ k)) - 1) = (fw (bk h k (σ 13) (σ 14) (σ 15)) e 0).2.2.2) (lc_i (by rfl : 0 = (fw (bk h k (σ 13) (σ 14) (σ 15)) e 0).2.2.1) (lc_i (by rfl : 0 = (nI 0)) rfl)))))))))
set_option maxHeartbeats 4000000 in
set_option maxRecDepth 100000 in
theorem k_X10_find (l : Launch) (G : GP) (ad : Nat → Nat) (σ : Nat → Nat → Int32) (h : Nat) (k : Nat) (hb3 : (σ 12 3) = nI h) (hb4 : (σ 12 4) = nI k) (hh4 : h ≤ 4) (hk6 : k ≤ 6) (hkd : KD (σ 14) k) : CT l G yX10_find cX10_find 4 none 4 [.ref (ad 0), .ref (ad 12)] (WWB G ad σ) none (WWB G ad (ua (ua (ua (ua σ 2 (cpyF (wyM (bk h k (σ 13) (σ 14) (σ 15))) (σ 2) (2 ^ h))) 3 (cpyF (wyF (bk h k (σ 13) (σ 14) (σ 15))) (σ 3) (2 ^ h))) 4 (cpyF (wyW (bk h k (σ 13) (σ 14) (σ 15))) (σ 4) (2 ^ h))) 5 (cpyF (wyO (bk h k (σ 13) (σ 14) (σ 15))) (σ 5) (2 ^ h)))) := by
  refine x_meth "BetsOnBets$Ways" rfl (by decide +kernel) (by rfl) (Nat.le_of_ble_eq_true rfl) ?_
  intro pP eE sS mM args below meth cC A ls hC hr hkL hK hZ hA hH hl
  have hx := hC.1
  have hb := hC.2.1
  have hl : lv_has ls 4 [(0, .ref (ad 0)), (1, .ref (ad 12))] := hl
  have pwh := pw4 hh4
  have pwk := pw6 hk6
  have pk1 := Nat.one_le_two_pow (n := k)
  refine lv_aload_n hx hb dX10_find_0 rfl (lv_at hl 1 rfl) ?_
  refine x_callV (ws' := WWB G ad σ) (As := []) (rest := []) (st' := [.int (nI (2 ^ h))]) hC hK hZ hA hl.1 hH (k_X2_ends l G (pk ad [12, 13, 14, 15]) (pk σ [12, 13, 14, 15]) h k hb3 hb4 hh4 hk6) lk_X10_52 [12, 13, 14, 15] rfl rfl rfl 12 1 rfl rfl rfl ⟨Nat.le_of_ble_eq_true rfl, Nat.le_of_ble_eq_true rfl⟩ ⟨Nat.le_refl _, Nat.le_refl _⟩ (Nat.le_of_ble_eq_true rfl) rfl dX10_find_1 (fun H locs hH => ?_)
  refine lv_istore_n (lv' := [(2, .int (nI (2 ^ h))), (0, .ref (ad 0)), (1, .ref (ad 12))]) hx hb dX10_find_4 rfl hl (by decide) rfl (fun ls hl => ?_)
  refine lv_iconst (v := 0) hx hb dX10_find_5 (by decide) ?_
  refine lv_istore_n (lv' := [(3, .int 0), (2, .int (nI (2 ^ h))), (0, .ref (ad 0)), (1, .ref (ad 12))]) hx hb dX10_find_6 rfl hl (by decide) rfl (fun ls hl => ?_)
  refine x_loop (G := G) (A := A) (H0 := sS.heap) (nL := 4) (α := Nat) (fun q_ => (2 ^ h) - q_) (fun q_ => q_ ≤ (2 ^ h)) (fun q_ => WWB G ad (ua (ua (ua (ua σ 2 (cpyF (wyM (bk h k (σ 13) (σ 14) (σ 15))) (σ 2) q_)) 3 (cpyF (wyF (bk h k (σ 13) (σ 14) (σ 15))) (σ 3) q_)) 4 (cpyF (wyW (bk h k (σ 13) (σ 14) (σ 15))) (σ 4) q_)) 5 (cpyF (wyO (bk h k (σ 13) (σ 14) (σ 15))) (σ 5) q_))) (fun q_ => [(0, .ref (ad 0)), (1, .ref (ad 12)), (2, .int (nI (2 ^ h))), (3, .int (nI q_))]) ?_ 0 (show 0 ≤ (2 ^ h) from (Nat.zero_le _)) ?_ ?_
  · rintro e hi_e ih_e H locs ls hH hl
    replace hi_e : e ≤ (2 ^ h) := hi_e
    replace hH : Hx G A (WWB G ad (ua (ua (ua (ua σ 2 (cpyF (wyM (bk h k (σ 13) (σ 14) (σ 15))) (σ 2) e)) 3 (cpyF (wyF (bk h k (σ 13) (σ 14) (σ 15))) (σ 3) e)) 4 (cpyF (wyW (bk h k (σ 13) (σ 14) (σ 15))) (σ 4) e)) 5 (cpyF (wyO (bk h k (σ 13) (σ 14) (σ 15))) (σ 5) e))) sS.heap H locs := hH
    replace hl : lv_has ls 4 [(0, .ref (ad 0)), (1, .ref (ad 12)), (2, .int (nI (2 ^ h))), (3, .int (nI e))] := hl
    refine lv_iload_n hx hb dX10_find_7 rfl (lv_at hl 3 rfl) ?_
    refine lv_iload_n hx hb dX10_find_8 rfl (lv_at hl 2 rfl) ?_
    refine lv_icmp_ge (tgt := 24) hx hb dX10_find_9 (by decide) (fun c9 => ?_) (fun c9 => ?_)
    · have ge_e := lp_out (n := 2 ^ h) rfl (by omega) (by omega) c9
      have eq_e : e = 2 ^ h := by omega
      exact x_vret hC hr hkL hH ((((congrArg (fun z_ : Nat → Int32 => WWB G ad (ua (ua (ua (ua σ 2 z_) 3 (cpyF (wyF (bk h k (σ 13) (σ 14) (σ 15))) (σ 3) (2 ^ h))) 4 (cpyF (wyW (bk h k (σ 13) (σ 14) (σ 15))) (σ 4) (2 ^ h))) 5 (cpyF (wyO (bk h k (σ 13) (σ 14) (σ 15))) (σ 5) (2 ^ h)))) (by rw [eq_e] : (cpyF (wyM (bk h k (σ 13) (σ 14) (σ 15))) (σ 2) (2 ^ h)) = (cpyF (wyM (bk h k (σ 13) (σ 14) (σ 15))) (σ 2) e))).trans (congrArg (fun z_ : Nat → Int32 => WWB G ad (ua (ua (ua (ua σ 2 (cpyF (wyM (bk h k (σ 13) (σ 14) (σ 15))) (σ 2) e)) 3 z_) 4 (cpyF (wyW (bk h k (σ 13) (σ 14) (σ 15))) (σ 4) (2 ^ h))) 5 (cpyF (wyO (bk h k (σ 13) (σ 14) (σ 15))) (σ 5) (2 ^ h)))) (by rw [eq_e] : (cpyF (wyF (bk h k (σ 13) (σ 14) (σ 15))) (σ 3) (2 ^ h)) = (cpyF (wyF (bk h k (σ 13) (σ 14) (σ 15))) (σ 3) e)))).trans (congrArg (fun z_ : Nat → Int32 => WWB G ad (ua (ua (ua (ua σ 2 (cpyF (wyM (bk h k (σ 13) (σ 14) (σ 15))) (σ 2) e)) 3 (cpyF (wyF (bk h k (σ 13) (σ 14) (σ 15))) (σ 3) e)) 4 z_) 5 (cpyF (wyO (bk h k (σ 13) (σ 14) (σ 15))) (σ 5) (2 ^ h)))) (by rw [eq_e] : (cpyF (wyW (bk h k (σ 13) (σ 14) (σ 15))) (σ 4) (2 ^ h)) = (cpyF (wyW (bk h k (σ 13) (σ 14) (σ 15))) (σ 4) e)))).trans (congrArg (fun z_ : Nat → Int32 => WWB G ad (ua (ua (ua (ua σ 2 (cpyF (wyM (bk h k (σ 13) (σ 14) (σ 15))) (σ 2) e)) 3 (cpyF (wyF (bk h k (σ 13) (σ 14) (σ 15))) (σ 3) e)) 4 (cpyF (wyW (bk h k (σ 13) (σ 14) (σ 15))) (σ 4) e)) 5 z_)) (by rw [eq_e] : (cpyF (wyO (bk h k (σ 13) (σ 14) (σ 15))) (σ 5) (2 ^ h)) = (cpyF (wyO (bk h k (σ 13) (σ 14) (σ 15))) (σ 5) e)))) dX10_find_24
    · have lt_e := lp_in (n := 2 ^ h) rfl (by omega) (by omega) c9
      refine lv_aload_n hx hb dX10_find_12 rfl (lv_at hl 0 rfl) ?_
      refine lv_aload_n hx hb dX10_find_13 rfl (lv_at hl 1 rfl) ?_
      refine lv_iload_n hx hb dX10_find_14 rfl (lv_at hl 3 rfl) ?_
      refine x_callVA (ws' := WWB G ad (ua (ua (ua (ua σ 2 (upd (cpyF (wyM (bk h k (σ 13) (σ 14) (σ 15))) (σ 2) e) e (fwA (bk h k (σ 13) (σ 14) (σ 15)) (nI e)).1)) 3 (upd (cpyF (wyF (bk h k (σ 13) (σ 14) (σ 15))) (σ 3) e) e (fwA (bk h k (σ 13) (σ 14) (σ 15)) (nI e)).2.1)) 4 (upd (cpyF (wyW (bk h k (σ 13) (σ 14) (σ 15))) (σ 4) e) e (wonF (fwA (bk h k (σ 13) (σ 14) (σ 15)) (nI e))))) 5 (upd (cpyF (wyO (bk h k (σ 13) (σ 14) (σ 15))) (σ 5) e) e (opF (fwA (bk h k (σ 13) (σ 14) (σ 15)) (nI e)) (nI (2 ^ k) - 1))))) (As := [.ref (ad 12), .int (nI e)]) (rest := []) (st' := []) hC hK hZ hA hl.1 hH (k_X10_findOf l G ad (ua (ua (ua (ua σ 2 (cpyF (wyM (bk h k (σ 13) (σ 14) (σ 15))) (σ 2) e)) 3 (cpyF (wyF (bk h k (σ 13) (σ 14) (σ 15))) (σ 3) e)) 4 (cpyF (wyW (bk h k (σ 13) (σ 14) (σ 15))) (σ 4) e)) 5 (cpyF (wyO (bk h k (σ 13) (σ 14) (σ 15))) (σ 5) e)) (nI e) h k e hb3 hb4 hh4 hk6 hkd rfl (by omega)) lk_X10_58 rfl 0 9 rfl rfl rfl ⟨Nat.le_of_ble_eq_true rfl, Nat.le_of_ble_eq_true rfl⟩ ⟨Nat.le_refl _, Nat.le_refl _⟩ (Nat.le_of_ble_eq_true rfl) rfl dX10_find_15 (fun H locs hH => ?_)
      refine lv_iinc (v := ((nI e) + 1)) (lv' := [(3, .int ((nI e) + 1)), (0, .ref (ad 0)), (1, .ref (ad 12)), (2, .int (nI (2 ^ h)))]) hx hb dX10_find_18 hl (k := 3) rfl rfl (by decide) rfl (fun ls hl => ?_)
      refine lv_goto (tgt := 7) hx hb dX10_find_21 (by decide) ?_
      exact ih_e (e + 1) (show (e + 1) ≤ (2 ^ h) from (by omega)) (show (2 ^ h) - (e + 1) < (2 ^ h) - e from (by omega)) _ _ _ (hH.eq ((((congrArg (fun z_ : Nat → Int32 => WWB G ad (ua (ua (ua (ua σ 2 z_) 3 (upd (cpyF (wyF (bk h k (σ 13) (σ 14) (σ 15))) (σ 3) e) e (fwA (bk h k (σ 13) (σ 14) (σ 15)) (nI e)).2.1)) 4 (upd (cpyF (wyW (bk h k (σ 13) (σ 14) (σ 15))) (σ 4) e) e (wonF (fwA (bk h k (σ 13) (σ 14) (σ 15)) (nI e))))) 5 (upd (cpyF (wyO (bk h k (σ 13) (σ 14) (σ 15))) (σ 5) e) e (opF (fwA (bk h k (σ 13) (σ 14) (σ 15)) (nI e)) (nI (2 ^ k) - 1))))) (by exact cpyF_s _ _ _ : (upd (cpyF (wyM (bk h k (σ 13) (σ 14) (σ 15))) (σ 2) e) e (fwA (bk h k (σ 13) (σ 14) (σ 15)) (nI e)).1) = (cpyF (wyM (bk h k (σ 13) (σ 14) (σ 15))) (σ 2) (e + 1)))).trans (congrArg (fun z_ : Nat → Int32 => WWB G ad (ua (ua (ua (ua σ 2 (cpyF (wyM (bk h k (σ 13) (σ 14) (σ 15))) (σ 2) (e + 1))) 3 z_) 4 (upd (cpyF (wyW (bk h k (σ 13) (σ 14) (σ 15))) (σ 4) e) e (wonF (fwA (bk h k (σ 13) (σ 14) (σ 15)) (nI e))))) 5 (upd (cpyF (wyO (bk h k (σ 13) (σ 14) (σ 15))) (σ 5) e) e (opF (fwA (bk h k (σ 13) (σ 14) (σ 15)) (nI e)) (nI (2 ^ k) - 1))))) (by exact cpyF_s _ _ _ : (upd (cpyF (wyF (bk h k (σ 13) (σ 14) (σ 15))) (σ 3) e) e (fwA (bk h k (σ 13) (σ 14) (σ 15)) (nI e)).2.1) = (cpyF (wyF (bk h k (σ 13) (σ 14) (σ 15))) (σ 3) (e + 1))))).trans (congrArg (fun z_ : Nat → Int32 => WWB G ad (ua (ua (ua (ua σ 2 (cpyF (wyM (bk h k (σ 13) (σ 14) (σ 15))) (σ 2) (e + 1))) 3 (cpyF (wyF (bk h k (σ 13) (σ 14) (σ 15))) (σ 3) (e + 1))) 4 z_) 5 (upd (cpyF (wyO (bk h k (σ 13) (σ 14) (σ 15))) (σ 5) e) e (opF (fwA (bk h k (σ 13) (σ 14) (σ 15)) (nI e)) (nI (2 ^ k) - 1))))) (by exact cpyF_s _ _ _ : (upd (cpyF (wyW (bk h k (σ 13) (σ 14) (σ 15))) (σ 4) e) e (wonF (fwA (bk h k (σ 13) (σ 14) (σ 15)) (nI e)))) = (cpyF (wyW (bk h k (σ 13) (σ 14) (σ 15))) (σ 4) (e + 1))))).trans (congrArg (fun z_ : Nat → Int32 => WWB G ad (ua (ua (ua (ua σ 2 (cpyF (wyM (bk h k (σ 13) (σ 14) (σ 15))) (σ 2) (e + 1))) 3 (cpyF (wyF (bk h k (σ 13) (σ 14) (σ 15))) (σ 3) (e + 1))) 4 (cpyF (wyW (bk h k (σ 13) (σ 14) (σ 15))) (σ 4) (e + 1))) 5 z_)) (by exact cpyF_s _ _ _ : (upd (cpyF (wyO (bk h k (σ 13) (σ 14) (σ 15))) (σ 5) e) e (opF (fwA (bk h k (σ 13) (σ 14) (σ 15)) (nI e)) (nI (2 ^ k) - 1))) = (cpyF (wyO (bk h k (σ 13) (σ 14) (σ 15))) (σ 5) (e + 1)))))) (lv_eq (lv_sub hl [1, 2, 3, 0] rfl) (lc_s (lc_s (lc_s (lc_i (by exact nI_1 _ : ((nI e) + 1) = (nI (e + 1))) rfl)))))
  · exact hH.eq (Eq.trans (show WWB G ad σ = WWB G ad (ua (ua (ua (ua σ 2 (σ 2)) 3 (σ 3)) 4 (σ 4)) 5 (σ 5)) from rfl) ((((congrArg (fun z_ : Nat → Int32 => WWB G ad (ua (ua (ua (ua σ 2 z_) 3 (σ 3)) 4 (σ 4)) 5 (σ 5))) (by exact (cpyF_0 _ _).symm : (σ 2) = (cpyF (wyM (bk h k (σ 13) (σ 14) (σ 15))) (σ 2) 0))).trans (congrArg (fun z_ : Nat → Int32 => WWB G ad (ua (ua (ua (ua σ 2 (cpyF (wyM (bk h k (σ 13) (σ 14) (σ 15))) (σ 2) 0)) 3 z_) 4 (σ 4)) 5 (σ 5))) (by exact (cpyF_0 _ _).symm : (σ 3) = (cpyF (wyF (bk h k (σ 13) (σ 14) (σ 15))) (σ 3) 0)))).trans (congrArg (fun z_ : Nat → Int32 => WWB G ad (ua (ua (ua (ua σ 2 (cpyF (wyM (bk h k (σ 13) (σ 14) (σ 15))) (σ 2) 0)) 3 (cpyF (wyF (bk h k (σ 13) (σ 14) (σ 15))) (σ 3) 0)) 4 z_) 5 (σ 5))) (by exact (cpyF_0 _ _).symm : (σ 4) = (cpyF (wyW (bk h k (σ 13) (σ 14) (σ 15))) (σ 4) 0)))).trans (congrArg (fun z_ : Nat → Int32 => WWB G ad (ua (ua (ua (ua σ 2 (cpyF (wyM (bk h k (σ 13) (σ 14) (σ 15))) (σ 2) 0)) 3 (cpyF (wyF (bk h k (σ 13) (σ 14) (σ 15))) (σ 3) 0)) 4 (cpyF (wyW (bk h k (σ 13) (σ 14) (σ 15))) (σ 4) 0)) 5 z_)) (by exact (cpyF_0 _ _).symm : (σ 5) = (cpyF (wyO (bk h k (σ 13) (σ 14) (σ 15))) (σ 5) 0)))))
  · exact lv_eq (lv_sub hl [2, 3, 1, 0] rfl) (lc_s (lc_s (lc_s (lc_i (by rfl : 0 = (nI 0)) rfl))))
set_option maxHeartbeats 4000000 in
set_option maxRecDepth 100000 in
theorem k_X10_howMany (l : Launch) (G : GP) (ad : Nat → Nat) (σ : Nat → Nat → Int32) (e : Int32) (ej : Nat) (he : e = nI ej) (he16 : ej < 16) : CT l G yX10_howMany cX10_howMany 2 (some .int) 1 [.ref (ad 0), .int e] (WWY G ad σ) (some (.int ((σ 2) ej))) (WWY G ad σ) := by
  refine x_meth "BetsOnBets$Ways" rfl (by decide +kernel) (by rfl) (Nat.le_of_ble_eq_true rfl) ?_
  intro pP eE sS mM args below meth cC A ls hC hr hkL hK hZ hA hH hl
  have hx := hC.1
  have hb := hC.2.1
  have hl : lv_has ls 2 [(0, .ref (ad 0)), (1, .int e)] := hl
  refine lv_aload_n hx hb dX10_howMany_0 rfl (lv_at hl 0 rfl) ?_
  refine gf_X10_35 (v := .ref (ad 2)) hC hK hH 0 rfl rfl dX10_howMany_1 ?_
  refine lv_iload_n hx hb dX10_howMany_4 rfl (lv_at hl 1 rfl) ?_
  refine x_callN (ws' := WWY G ad σ) (As := [.ref (ad 2), .int e]) (rest := []) (st' := [.int (atF (σ 2) 16 e)]) hC hK hZ hA hl.1 hH (k_X11_at l G 16 (pk ad [2]) (pk σ [2]) e (by decide)) lk_X10_90 [2] rfl rfl rfl rfl ⟨Nat.le_of_ble_eq_true rfl, Nat.le_of_ble_eq_true rfl⟩ ⟨Nat.le_refl _, Nat.le_refl _⟩ (Nat.le_of_ble_eq_true rfl) rfl dX10_howMany_5 (fun H locs hH => ?_)
  exact x_iret hC hr hkL hH (by exact (atF_in he he16 (by decide)).symm) rfl dX10_howMany_8
set_option maxHeartbeats 4000000 in
set_option maxRecDepth 100000 in
theorem k_X10_firstOf (l : Launch) (G : GP) (ad : Nat → Nat) (σ : Nat → Nat → Int32) (e : Int32) (ej : Nat) (he : e = nI ej) (he16 : ej < 16) : CT l G yX10_firstOf cX10_firstOf 2 (some .int) 1 [.ref (ad 0), .int e] (WWY G ad σ) (some (.int ((σ 3) ej))) (WWY G ad σ) := by
  refine x_meth "BetsOnBets$Ways" rfl (by decide +kernel) (by rfl) (Nat.le_of_ble_eq_true rfl) ?_
  intro pP eE sS mM args below meth cC A ls hC hr hkL hK hZ hA hH hl
  have hx := hC.1
  have hb := hC.2.1
  have hl : lv_has ls 2 [(0, .ref (ad 0)), (1, .int e)] := hl
  refine lv_aload_n hx hb dX10_firstOf_0 rfl (lv_at hl 0 rfl) ?_
  refine gf_X10_39 (v := .ref (ad 3)) hC hK hH 0 rfl rfl dX10_firstOf_1 ?_
  refine lv_iload_n hx hb dX10_firstOf_4 rfl (lv_at hl 1 rfl) ?_
  refine x_callN (ws' := WWY G ad σ) (As := [.ref (ad 3), .int e]) (rest := []) (st' := [.int (atF (σ 3) 16 e)]) hC hK hZ hA hl.1 hH (k_X11_at l G 16 (pk ad [3]) (pk σ [3]) e (by decide)) lk_X10_90 [3] rfl rfl rfl rfl ⟨Nat.le_of_ble_eq_true rfl, Nat.le_of_ble_eq_true rfl⟩ ⟨Nat.le_refl _, Nat.le_refl _⟩ (Nat.le_of_ble_eq_true rfl) rfl dX10_firstOf_5 (fun H locs hH => ?_)
  exact x_iret hC hr hkL hH (by exact (atF_in he he16 (by decide)).symm) rfl dX10_firstOf_8
set_option maxHeartbeats 4000000 in
set_option maxRecDepth 100000 in
theorem k_X10_voidIn (l : Launch) (G : GP) (ad : Nat → Nat) (σ : Nat → Nat → Int32) (e : Int32) (ej : Nat) (he : e = nI ej) (he16 : ej < 16) : CT l G yX10_voidIn cX10_voidIn 2 (some .int) 1 [.ref (ad 0), .int e] (WWY G ad σ) (some (.int ((σ 5) ej))) (WWY G ad σ) := by
  refine x_meth "BetsOnBets$Ways" rfl (by decide +kernel) (by rfl) (Nat.le_of_ble_eq_true rfl) ?_
  intro pP eE sS mM args below meth cC A ls hC hr hkL hK hZ hA hH hl
  have hx := hC.1
  have hb := hC.2.1
  have hl : lv_has ls 2 [(0, .ref (ad 0)), (1, .int e)] := hl
  refine lv_aload_n hx hb dX10_voidIn_0 rfl (lv_at hl 0 rfl) ?_
  refine gf_X10_45 (v := .ref (ad 5)) hC hK hH 0 rfl rfl dX10_voidIn_1 ?_
  refine lv_iload_n hx hb dX10_voidIn_4 rfl (lv_at hl 1 rfl) ?_
  refine x_callN (ws' := WWY G ad σ) (As := [.ref (ad 5), .int e]) (rest := []) (st' := [.int (atF (σ 5) 16 e)]) hC hK hZ hA hl.1 hH (k_X11_at l G 16 (pk ad [5]) (pk σ [5]) e (by decide)) lk_X10_90 [5] rfl rfl rfl rfl ⟨Nat.le_of_ble_eq_true rfl, Nat.le_of_ble_eq_true rfl⟩ ⟨Nat.le_refl _, Nat.le_refl _⟩ (Nat.le_of_ble_eq_true rfl) rfl dX10_voidIn_5 (fun H locs hH => ?_)
  exact x_iret hC hr hkL hH (by exact (atF_in he he16 (by decide)).symm) rfl dX10_voidIn_8
set_option maxHeartbeats 4000000 in
set_option maxRecDepth 100000 in
theorem k_X10_standingOf (l : Launch) (G : GP) (ad : Nat → Nat) (σ : Nat → Nat → Int32) (b : Int32) (e : Int32) (ej : Nat) (he : e = nI ej) (he16 : ej < 16) : CT l G yX10_standingOf cX10_standingOf 3 (some .int) 1 [.ref (ad 0), .int b, .int e] (WWY G ad σ) (some (.int (stW ((σ 4) ej) ((σ 5) ej) b))) (WWY G ad σ) := by
  refine x_meth "BetsOnBets$Ways" rfl (by decide +kernel) (by rfl) (Nat.le_of_ble_eq_true rfl) ?_
  intro pP eE sS mM args below meth cC A ls hC hr hkL hK hZ hA hH hl
  have hx := hC.1
  have hb := hC.2.1
  have hl : lv_has ls 3 [(0, .ref (ad 0)), (1, .int b), (2, .int e)] := hl
  refine lv_aload_n hx hb dX10_standingOf_0 rfl (lv_at hl 0 rfl) ?_
  refine gf_X10_42 (v := .ref (ad 4)) hC hK hH 0 rfl rfl dX10_standingOf_1 ?_
  refine lv_iload_n hx hb dX10_standingOf_4 rfl (lv_at hl 2 rfl) ?_
  refine x_callN (ws' := WWY G ad σ) (As := [.ref (ad 4), .int e]) (rest := []) (st' := [.int (atF (σ 4) 16 e)]) hC hK hZ hA hl.1 hH (k_X11_at l G 16 (pk ad [4]) (pk σ [4]) e (by decide)) lk_X10_90 [4] rfl rfl rfl rfl ⟨Nat.le_of_ble_eq_true rfl, Nat.le_of_ble_eq_true rfl⟩ ⟨Nat.le_refl _, Nat.le_refl _⟩ (Nat.le_of_ble_eq_true rfl) rfl dX10_standingOf_5 (fun H locs hH => ?_)
  refine x_topE (y := ((σ 4) ej)) (atF_in he he16 (by decide)) ?_
  refine lv_iload_n hx hb dX10_standingOf_8 rfl (lv_at hl 1 rfl) ?_
  refine x_callN (ws' := WWY G ad σ) (As := [.int ((σ 4) ej), .int b]) (rest := []) (st' := [.int (bI (tb ((σ 4) ej) b))]) hC hK hZ hA hl.1 hH (k_X11_has l G (pk ad []) (pk σ []) ((σ 4) ej) b) lk_X10_86 [] rfl rfl rfl rfl ⟨Nat.le_of_ble_eq_true rfl, Nat.le_of_ble_eq_true rfl⟩ ⟨Nat.le_refl _, Nat.le_refl _⟩ (Nat.le_of_ble_eq_true rfl) rfl dX10_standingOf_9 (fun H locs hH => ?_)
  refine x_beq (tgt := 17) hC dX10_standingOf_12 (by decide) (fun c12 => ?_) (fun c12 => ?_)
  · refine lv_aload_n hx hb dX10_standingOf_17 rfl (lv_at hl 0 rfl) ?_
    refine gf_X10_45 (v := .ref (ad 5)) hC hK hH 0 rfl rfl dX10_standingOf_18 ?_
    refine lv_iload_n hx hb dX10_standingOf_21 rfl (lv_at hl 2 rfl) ?_
    refine x_callN (ws' := WWY G ad σ) (As := [.ref (ad 5), .int e]) (rest := []) (st' := [.int (atF (σ 5) 16 e)]) hC hK hZ hA hl.1 hH (k_X11_at l G 16 (pk ad [5]) (pk σ [5]) e (by decide)) lk_X10_90 [5] rfl rfl rfl rfl ⟨Nat.le_of_ble_eq_true rfl, Nat.le_of_ble_eq_true rfl⟩ ⟨Nat.le_refl _, Nat.le_refl _⟩ (Nat.le_of_ble_eq_true rfl) rfl dX10_standingOf_22 (fun H locs hH => ?_)
    refine x_topE (y := ((σ 5) ej)) (atF_in he he16 (by decide)) ?_
    refine lv_iload_n hx hb dX10_standingOf_25 rfl (lv_at hl 1 rfl) ?_
    refine x_callN (ws' := WWY G ad σ) (As := [.int ((σ 5) ej), .int b]) (rest := []) (st' := [.int (bI (tb ((σ 5) ej) b))]) hC hK hZ hA hl.1 hH (k_X11_has l G (pk ad []) (pk σ []) ((σ 5) ej) b) lk_X10_86 [] rfl rfl rfl rfl ⟨Nat.le_of_ble_eq_true rfl, Nat.le_of_ble_eq_true rfl⟩ ⟨Nat.le_refl _, Nat.le_refl _⟩ (Nat.le_of_ble_eq_true rfl) rfl dX10_standingOf_26 (fun H locs hH => ?_)
    refine x_beq (tgt := 36) hC dX10_standingOf_29 (by decide) (fun c29 => ?_) (fun c29 => ?_)
    · refine lv_iconst (v := 0) hx hb dX10_standingOf_36 (by decide) ?_
      exact x_iret hC hr hkL hH (by first | exact cI_t c12 | exact (cI_f c12).trans (cI_t c29) | exact (cI_f c12).trans (cI_f c29)) rfl dX10_standingOf_37
    · refine lv_iconst (v := 2) hx hb dX10_standingOf_32 (by decide) ?_
      refine lv_goto (tgt := 37) hx hb dX10_standingOf_33 (by decide) ?_
      exact x_iret hC hr hkL hH (by first | exact cI_t c12 | exact (cI_f c12).trans (cI_t c29) | exact (cI_f c12).trans (cI_f c29)) rfl dX10_standingOf_37
  · refine lv_iconst (v := 1) hx hb dX10_standingOf_15 (by decide) ?_
    exact x_iret hC hr hkL hH (by first | exact cI_t c12 | exact (cI_f c12).trans (cI_t c29) | exact (cI_f c12).trans (cI_f c29)) rfl dX10_standingOf_16
set_option maxHeartbeats 4000000 in
set_option maxRecDepth 100000 in
theorem k_X10_betBit (l : Launch) (G : GP) (ad : Nat → Nat) (σ : Nat → Nat → Int32) (m : Int32) (k : Nat) (h : Nat) (hb3 : (σ 0 3) = nI h) (hb4 : (σ 0 4) = nI k) (hh4 : h ≤ 4) (hk6 : k ≤ 6) : CT l G yX10_betBit cX10_betBit 2 (some .int) 1 [.ref (ad 0), .int m] (WBK G ad σ) (some (.int (bbF k m))) (WBK G ad σ) := by
  refine x_meth "BetsOnBets$Ways" rfl (by decide +kernel) (by rfl) (Nat.le_of_ble_eq_true rfl) ?_
  intro pP eE sS mM args below meth cC A ls hC hr hkL hK hZ hA hH hl
  have hx := hC.1
  have hb := hC.2.1
  have hl : lv_has ls 2 [(0, .ref (ad 0)), (1, .int m)] := hl
  refine lv_aload_n hx hb dX10_betBit_0 rfl (lv_at hl 0 rfl) ?_
  refine lv_iload_n hx hb dX10_betBit_1 rfl (lv_at hl 1 rfl) ?_
  refine lv_bipush (v := 10) hx hb dX10_betBit_2 (by decide) ?_
  refine lv_isub hx hb dX10_betBit_4 ?_
  refine x_callVA (ws' := WBK G ad σ) (As := [.int (m - 10)]) (rest := []) (st' := [.int (bI (inb (m - 10) k))]) hC hK hZ hA hl.1 hH (k_X2_hasBet l G ad σ (m - 10) h k hb3 hb4 hh4 hk6) lk_X10_102 rfl 0 1 rfl rfl rfl ⟨Nat.le_of_ble_eq_true rfl, Nat.le_of_ble_eq_true rfl⟩ ⟨Nat.le_refl _, Nat.le_refl _⟩ (Nat.le_of_ble_eq_true rfl) rfl dX10_betBit_5 (fun H locs hH => ?_)
  refine x_beq (tgt := 20) hC dX10_betBit_8 (by decide) (fun c8 => ?_) (fun c8 => ?_)
  · refine lv_iconst (v := 0) hx hb dX10_betBit_20 (by decide) ?_
    exact x_iret hC hr hkL hH (by first | exact cI_t c8 | exact cI_f c8) rfl dX10_betBit_21
  · refine lv_iconst (v := 1) hx hb dX10_betBit_11 (by decide) ?_
    refine lv_iload_n hx hb dX10_betBit_12 rfl (lv_at hl 1 rfl) ?_
    refine lv_bipush (v := 10) hx hb dX10_betBit_13 (by decide) ?_
    refine lv_isub hx hb dX10_betBit_15 ?_
    refine lv_ishl hx hb dX10_betBit_16 ?_
    refine lv_goto (tgt := 21) hx hb dX10_betBit_17 (by decide) ?_
    exact x_iret hC hr hkL hH (by first | exact cI_t c8 | exact cI_f c8) rfl dX10_betBit_21
set_option maxHeartbeats 4000000 in
set_option maxRecDepth 100000 in
theorem k_X10_lookedAt (l : Launch) (G : GP) (ad : Nat → Nat) (σ : Nat → Nat → Int32) (b : Int32) (h : Nat) (k : Nat) (bj : Nat) (hb3 : (σ 12 3) = nI h) (hb4 : (σ 12 4) = nI k) (hh4 : h ≤ 4) (hk6 : k ≤ 6) (hkd : KD (σ 14) k) (hbN : b = nI bj) (hbk : bj < k) : CT l G yX10_lookedAt cX10_lookedAt 5 (some .int) 2 [.ref (ad 0), .ref (ad 12), .int b] (WWB G ad σ) (some (.int (laF (bk h k (σ 13) (σ 14) (σ 15)) bj))) (WWB G ad σ) := by
  refine x_meth "BetsOnBets$Ways" rfl (by decide +kernel) (by rfl) (Nat.le_of_ble_eq_true rfl) ?_
  intro pP eE sS mM args below meth cC A ls hC hr hkL hK hZ hA hH hl
  have hx := hC.1
  have hb := hC.2.1
  have hl : lv_has ls 5 [(0, .ref (ad 0)), (1, .ref (ad 12)), (2, .int b)] := hl
  have pwh := pw4 hh4
  have pwk := pw6 hk6
  have pk1 := Nat.one_le_two_pow (n := k)
  refine lv_aload_n hx hb dX10_lookedAt_0 rfl (lv_at hl 0 rfl) ?_
  refine lv_aload_n hx hb dX10_lookedAt_1 rfl (lv_at hl 1 rfl) ?_
  refine lv_iload_n hx hb dX10_lookedAt_2 rfl (lv_at hl 2 rfl) ?_
  refine lv_iconst (v := 0) hx hb dX10_lookedAt_3 (by decide) ?_
  refine x_callV (ws' := WWB G ad σ) (As := [.int b, .int 0]) (rest := [.ref (ad 0)]) (st' := [.int ((σ 14) (7 * bj + 0)), .ref (ad 0)]) hC hK hZ hA hl.1 hH (k_X2_numberOf l G (pk ad [12, 13, 14, 15]) (pk σ [12, 13, 14, 15]) b 0 bj 0 hbN rfl (by omega) (by decide)) lk_X10_70 [12, 13, 14, 15] rfl rfl rfl 12 1 rfl rfl rfl ⟨Nat.le_of_ble_eq_true rfl, Nat.le_of_ble_eq_true rfl⟩ ⟨Nat.le_refl _, Nat.le_refl _⟩ (Nat.le_of_ble_eq_true rfl) rfl dX10_lookedAt_4 (fun H locs hH => ?_)
  rcases hkd bj (by omega) with h0 | h1 | h2 | h3 | h4 | h5
  · refine x_topE (y := 0) h0 ?_
    refine x_callV (ws' := WWB G ad σ) (As := [.int 0]) (rest := []) (st' := [.ref (ad 6)]) hC hK hZ hA hl.1 hH (k_X10_kindOf_0 l G (pk ad [0, 1, 2, 3, 4, 5, 6, 7, 8, 9, 10, 11]) (pk σ [0, 1, 2, 3, 4, 5, 6, 7, 8, 9, 10, 11]) 0 rfl) lk_X10_74 [0, 1, 2, 3, 4, 5, 6, 7, 8, 9, 10, 11] rfl rfl rfl 0 9 rfl rfl rfl ⟨Nat.le_of_ble_eq_true rfl, Nat.le_of_ble_eq_true rfl⟩ ⟨Nat.le_refl _, Nat.le_refl _⟩ (Nat.le_of_ble_eq_true rfl) rfl dX10_lookedAt_7 (fun H locs hH => ?_)
    refine lv_astore_n (lv' := [(3, .ref (ad 6)), (0, .ref (ad 0)), (1, .ref (ad 12)), (2, .int b)]) hx hb dX10_lookedAt_10 rfl hl (by decide) rfl (fun ls hl => ?_)
    refine lv_aload_n hx hb dX10_lookedAt_11 rfl (lv_at hl 2 rfl) ?_
    refine lv_aload_n hx hb dX10_lookedAt_12 rfl (lv_at hl 2 rfl) ?_
    refine lv_iload_n hx hb dX10_lookedAt_13 rfl (lv_at hl 3 rfl) ?_
    refine lv_iconst (v := 1) hx hb dX10_lookedAt_14 (by decide) ?_
    refine x_callV (ws' := WWB G ad σ) (As := [.int b, .int 1]) (rest := [.ref (ad 12)]) (st' := [.int ((σ 14) (7 * bj + 1)), .ref (ad 12)]) hC hK hZ hA hl.1 hH (k_X2_numberOf l G (pk ad [12, 13, 14, 15]) (pk σ [12, 13, 14, 15]) b 1 bj 1 hbN rfl (by omega) (by decide)) lk_X10_70 [12, 13, 14, 15] rfl rfl rfl 12 1 rfl rfl rfl ⟨Nat.le_of_ble_eq_true rfl, Nat.le_of_ble_eq_true rfl⟩ ⟨Nat.le_refl _, Nat.le_refl _⟩ (Nat.le_of_ble_eq_true rfl) rfl dX10_lookedAt_15 (fun H locs hH => ?_)
    refine x_callS (ws' := WWB G ad σ) (As := [.ref (ad 12), .int ((σ 14) (7 * bj + 1))]) (rest := []) (st' := [.int (bbF k ((σ 14) (7 * bj + 1)))]) hC hK hZ hA hl.1 hH (k_X10_betBit l G (pk ad [12, 13, 14, 15]) (pk σ [12, 13, 14, 15]) ((σ 14) (7 * bj + 1)) k h hb3 hb4 hh4 hk6) lk_X10_94 [12, 13, 14, 15] rfl rfl rfl rfl ⟨Nat.le_of_ble_eq_true rfl, Nat.le_of_ble_eq_true rfl⟩ ⟨Nat.le_refl _, Nat.le_refl _⟩ (Nat.le_of_ble_eq_true rfl) rfl dX10_lookedAt_18 (fun H locs hH => ?_)
    refine lv_istore (lv' := [(4, .int (bbF k ((σ 14) (7 * bj + 1)))), (3, .ref (ad 6)), (0, .ref (ad 0)), (1, .ref (ad 12)), (2, .int b)]) hx hb dX10_lookedAt_21 hl (by decide) rfl (fun ls hl => ?_)
    refine lv_aload_n hx hb dX10_lookedAt_23 rfl (lv_at hl 1 rfl) ?_
    refine lv_ifnull hx hb dX10_lookedAt_24 ?_
    refine lv_aload_n hx hb dX10_lookedAt_27 rfl (lv_at hl 1 rfl) ?_
    refine x_callG (ws' := WWB G ad σ) (As := []) (rest := []) (st' := [.int (bI (False))]) hC hK hZ hA hl.1 hH (k_X7_looksAtBoth l G (pk ad [6]) (pk σ [6])) (lu_X10_98_X7 hC hK ⟨Nat.le_of_ble_eq_true rfl, Nat.le_of_ble_eq_true rfl⟩) [6] rfl rfl rfl 6 6 rfl rfl rfl ⟨Nat.le_refl _, Nat.le_refl _⟩ (Nat.le_of_ble_eq_true rfl) rfl dX10_lookedAt_28 (fun H locs hH => ?_)
    refine x_beq (tgt := 49) hC dX10_lookedAt_31 (by decide) (fun c31 => ?_) (fun c31 => ?_)
    rotate_left
    · exact c31.elim
    refine lv_iload hx hb dX10_lookedAt_49 (lv_at hl 0 rfl) ?_
    exact x_iret hC hr hkL hH (by exact if_pos (Or.inl h0)) rfl dX10_lookedAt_51
  · refine x_topE (y := 1) h1 ?_
    refine x_callV (ws' := WWB G ad σ) (As := [.int 1]) (rest := []) (st' := [.ref (ad 7)]) hC hK hZ hA hl.1 hH (k_X10_kindOf_1 l G (pk ad [0, 1, 2, 3, 4, 5, 6, 7, 8, 9, 10, 11]) (pk σ [0, 1, 2, 3, 4, 5, 6, 7, 8, 9, 10, 11]) 1 rfl) lk_X10_74 [0, 1, 2, 3, 4, 5, 6, 7, 8, 9, 10, 11] rfl rfl rfl 0 9 rfl rfl rfl ⟨Nat.le_of_ble_eq_true rfl, Nat.le_of_ble_eq_true rfl⟩ ⟨Nat.le_refl _, Nat.le_refl _⟩ (Nat.le_of_ble_eq_true rfl) rfl dX10_lookedAt_7 (fun H locs hH => ?_)
    refine lv_astore_n (lv' := [(3, .ref (ad 7)), (0, .ref (ad 0)), (1, .ref (ad 12)), (2, .int b)]) hx hb dX10_lookedAt_10 rfl hl (by decide) rfl (fun ls hl => ?_)
    refine lv_aload_n hx hb dX10_lookedAt_11 rfl (lv_at hl 2 rfl) ?_
    refine lv_aload_n hx hb dX10_lookedAt_12 rfl (lv_at hl 2 rfl) ?_
    refine lv_iload_n hx hb dX10_lookedAt_13 rfl (lv_at hl 3 rfl) ?_
    refine lv_iconst (v := 1) hx hb dX10_lookedAt_14 (by decide) ?_
    refine x_callV (ws' := WWB G ad σ) (As := [.int b, .int 1]) (rest := [.ref (ad 12)]) (st' := [.int ((σ 14) (7 * bj + 1)), .ref (ad 12)]) hC hK hZ hA hl.1 hH (k_X2_numberOf l G (pk ad [12, 13, 14, 15]) (pk σ [12, 13, 14, 15]) b 1 bj 1 hbN rfl (by omega) (by decide)) lk_X10_70 [12, 13, 14, 15] rfl rfl rfl 12 1 rfl rfl rfl ⟨Nat.le_of_ble_eq_true rfl, Nat.le_of_ble_eq_true rfl⟩ ⟨Nat.le_refl _, Nat.le_refl _⟩ (Nat.le_of_ble_eq_true rfl) rfl dX10_lookedAt_15 (fun H locs hH => ?_)
    refine x_callS (ws' := WWB G ad σ) (As := [.ref (ad 12), .int ((σ 14) (7 * bj + 1))]) (rest := []) (st' := [.int (bbF k ((σ 14) (7 * bj + 1)))]) hC hK hZ hA hl.1 hH (k_X10_betBit l G (pk ad [12, 13, 14, 15]) (pk σ [12, 13, 14, 15]) ((σ 14) (7 * bj + 1)) k h hb3 hb4 hh4 hk6) lk_X10_94 [12, 13, 14, 15] rfl rfl rfl rfl ⟨Nat.le_of_ble_eq_true rfl, Nat.le_of_ble_eq_true rfl⟩ ⟨Nat.le_refl _, Nat.le_refl _⟩ (Nat.le_of_ble_eq_true rfl) rfl dX10_lookedAt_18 (fun H locs hH => ?_)
    refine lv_istore (lv' := [(4, .int (bbF k ((σ 14) (7 * bj + 1)))), (3, .ref (ad 7)), (0, .ref (ad 0)), (1, .ref (ad 12)), (2, .int b)]) hx hb dX10_lookedAt_21 hl (by decide) rfl (fun ls hl => ?_)
    refine lv_aload_n hx hb dX10_lookedAt_23 rfl (lv_at hl 1 rfl) ?_
    refine lv_ifnull hx hb dX10_lookedAt_24 ?_
    refine lv_aload_n hx hb dX10_lookedAt_27 rfl (lv_at hl 1 rfl) ?_
    refine x_callG (ws' := WWB G ad σ) (As := []) (rest := []) (st' := [.int (bI (False))]) hC hK hZ hA hl.1 hH (k_X7_looksAtBoth_X0 l G (pk ad [7]) (pk σ [7])) (lu_X10_98_X0 hC hK ⟨Nat.le_of_ble_eq_true rfl, Nat.le_of_ble_eq_true rfl⟩) [7] rfl rfl rfl 7 0 rfl rfl rfl ⟨Nat.le_refl _, Nat.le_refl _⟩ (Nat.le_of_ble_eq_true rfl) rfl dX10_lookedAt_28 (fun H locs hH => ?_)
    refine x_beq (tgt := 49) hC dX10_lookedAt_31 (by decide) (fun c31 => ?_) (fun c31 => ?_)
    rotate_left
    · exact c31.elim
    refine lv_iload hx hb dX10_lookedAt_49 (lv_at hl 0 rfl) ?_
    exact x_iret hC hr hkL hH (by exact if_pos (Or.inr h1)) rfl dX10_lookedAt_51
  · refine x_topE (y := 2) h2 ?_
    refine x_callV (ws' := WWB G ad σ) (As := [.int 2]) (rest := []) (st' := [.ref (ad 8)]) hC hK hZ hA hl.1 hH (k_X10_kindOf_2 l G (pk ad [0, 1, 2, 3, 4, 5, 6, 7, 8, 9, 10, 11]) (pk σ [0, 1, 2, 3, 4, 5, 6, 7, 8, 9, 10, 11]) 2 rfl) lk_X10_74 [0, 1, 2, 3, 4, 5, 6, 7, 8, 9, 10, 11] rfl rfl rfl 0 9 rfl rfl rfl ⟨Nat.le_of_ble_eq_true rfl, Nat.le_of_ble_eq_true rfl⟩ ⟨Nat.le_refl _, Nat.le_refl _⟩ (Nat.le_of_ble_eq_true rfl) rfl dX10_lookedAt_7 (fun H locs hH => ?_)
    refine lv_astore_n (lv' := [(3, .ref (ad 8)), (0, .ref (ad 0)), (1, .ref (ad 12)), (2, .int b)]) hx hb dX10_lookedAt_10 rfl hl (by decide) rfl (fun ls hl => ?_)
    refine lv_aload_n hx hb dX10_lookedAt_11 rfl (lv_at hl 2 rfl) ?_
    refine lv_aload_n hx hb dX10_lookedAt_12 rfl (lv_at hl 2 rfl) ?_
    refine lv_iload_n hx hb dX10_lookedAt_13 rfl (lv_at hl 3 rfl) ?_
    refine lv_iconst (v := 1) hx hb dX10_lookedAt_14 (by decide) ?_
    refine x_callV (ws' := WWB G ad σ) (As := [.int b, .int 1]) (rest := [.ref (ad 12)]) (st' := [.int ((σ 14) (7 * bj + 1)), .ref (ad 12)]) hC hK hZ hA hl.1 hH (k_X2_numberOf l G (pk ad [12, 13, 14, 15]) (pk σ [12, 13, 14, 15]) b 1 bj 1 hbN rfl (by omega) (by decide)) lk_X10_70 [12, 13, 14, 15] rfl rfl rfl 12 1 rfl rfl rfl ⟨Nat.le_of_ble_eq_true rfl, Nat.le_of_ble_eq_true rfl⟩ ⟨Nat.le_refl _, Nat.le_refl _⟩ (Nat.le_of_ble_eq_true rfl) rfl dX10_lookedAt_15 (fun H locs hH => ?_)
    refine x_callS (ws' := WWB G ad σ) (As := [.ref (ad 12), .int ((σ 14) (7 * bj + 1))]) (rest := []) (st' := [.int (bbF k ((σ 14) (7 * bj + 1)))]) hC hK hZ hA hl.1 hH (k_X10_betBit l G (pk ad [12, 13, 14, 15]) (pk σ [12, 13, 14, 15]) ((σ 14) (7 * bj + 1)) k h hb3 hb4 hh4 hk6) lk_X10_94 [12, 13, 14, 15] rfl rfl rfl rfl ⟨Nat.le_of_ble_eq_true rfl, Nat.le_of_ble_eq_true rfl⟩ ⟨Nat.le_refl _, Nat.le_refl _⟩ (Nat.le_of_ble_eq_true rfl) rfl dX10_lookedAt_18 (fun H locs hH => ?_)
    refine lv_istore (lv' := [(4, .int (bbF k ((σ 14) (7 * bj + 1)))), (3, .ref (ad 8)), (0, .ref (ad 0)), (1, .ref (ad 12)), (2, .int b)]) hx hb dX10_lookedAt_21 hl (by decide) rfl (fun ls hl => ?_)
    refine lv_aload_n hx hb dX10_lookedAt_23 rfl (lv_at hl 1 rfl) ?_
    refine lv_ifnull hx hb dX10_lookedAt_24 ?_
    refine lv_aload_n hx hb dX10_lookedAt_27 rfl (lv_at hl 1 rfl) ?_
    refine x_callG (ws' := WWB G ad σ) (As := []) (rest := []) (st' := [.int (bI (True))]) hC hK hZ hA hl.1 hH (k_X3_looksAtBoth l G (pk ad [8]) (pk σ [8])) (lu_X10_98_X3 hC hK ⟨Nat.le_of_ble_eq_true rfl, Nat.le_of_ble_eq_true rfl⟩) [8] rfl rfl rfl 8 2 rfl rfl rfl ⟨Nat.le_refl _, Nat.le_refl _⟩ (Nat.le_of_ble_eq_true rfl) rfl dX10_lookedAt_28 (fun H locs hH => ?_)
    refine x_beq (tgt := 49) hC dX10_lookedAt_31 (by decide) (fun c31 => ?_) (fun c31 => ?_)
    · exact absurd trivial c31
    refine lv_iload hx hb dX10_lookedAt_34 (lv_at hl 0 rfl) ?_
    refine lv_aload_n hx hb dX10_lookedAt_36 rfl (lv_at hl 3 rfl) ?_
    refine lv_aload_n hx hb dX10_lookedAt_37 rfl (lv_at hl 3 rfl) ?_
    refine lv_iload_n hx hb dX10_lookedAt_38 rfl (lv_at hl 4 rfl) ?_
    refine lv_iconst (v := 2) hx hb dX10_lookedAt_39 (by decide) ?_
    refine x_callV (ws' := WWB G ad σ) (As := [.int b, .int 2]) (rest := [.ref (ad 12), .int (bbF k ((σ 14) (7 * bj + 1)))]) (st' := [.int ((σ 14) (7 * bj + 2)), .ref (ad 12), .int (bbF k ((σ 14) (7 * bj + 1)))]) hC hK hZ hA hl.1 hH (k_X2_numberOf l G (pk ad [12, 13, 14, 15]) (pk σ [12, 13, 14, 15]) b 2 bj 2 hbN rfl (by omega) (by decide)) lk_X10_70 [12, 13, 14, 15] rfl rfl rfl 12 1 rfl rfl rfl ⟨Nat.le_of_ble_eq_true rfl, Nat.le_of_ble_eq_true rfl⟩ ⟨Nat.le_refl _, Nat.le_refl _⟩ (Nat.le_of_ble_eq_true rfl) rfl dX10_lookedAt_40 (fun H locs hH => ?_)
    refine x_callS (ws' := WWB G ad σ) (As := [.ref (ad 12), .int ((σ 14) (7 * bj + 2))]) (rest := [.int (bbF k ((σ 14) (7 * bj + 1)))]) (st' := [.int (bbF k ((σ 14) (7 * bj + 2))), .int (bbF k ((σ 14) (7 * bj + 1)))]) hC hK hZ hA hl.1 hH (k_X10_betBit l G (pk ad [12, 13, 14, 15]) (pk σ [12, 13, 14, 15]) ((σ 14) (7 * bj + 2)) k h hb3 hb4 hh4 hk6) lk_X10_94 [12, 13, 14, 15] rfl rfl rfl rfl ⟨Nat.le_of_ble_eq_true rfl, Nat.le_of_ble_eq_true rfl⟩ ⟨Nat.le_refl _, Nat.le_refl _⟩ (Nat.le_of_ble_eq_true rfl) rfl dX10_lookedAt_43 (fun H locs hH => ?_)
    refine lv_ior hx hb dX10_lookedAt_46 ?_
    refine lv_istore (lv' := [(4, .int ((bbF k ((σ 14) (7 * bj + 1))) ||| (bbF k ((σ 14) (7 * bj + 2))))), (3, .ref (ad 8)), (0, .ref (ad 0)), (1, .ref (ad 12)), (2, .int b)]) hx hb dX10_lookedAt_47 hl (by decide) rfl (fun ls hl => ?_)
    refine lv_iload hx hb dX10_lookedAt_49 (lv_at hl 0 rfl) ?_
    exact x_iret hC hr hkL hH (by exact if_neg (fun z => z.elim (fun q => absurd (q.symm.trans h2) (by decide)) (fun q => absurd (q.symm.trans h2) (by decide)))) rfl dX10_lookedAt_51
  · refine x_topE (y := 3) h3 ?_
    refine x_callV (ws' := WWB G ad σ) (As := [.int 3]) (rest := []) (st' := [.ref (ad 9)]) hC hK hZ hA hl.1 hH (k_X10_kindOf_3 l G (pk ad [0, 1, 2, 3, 4, 5, 6, 7, 8, 9, 10, 11]) (pk σ [0, 1, 2, 3, 4, 5, 6, 7, 8, 9, 10, 11]) 3 rfl) lk_X10_74 [0, 1, 2, 3, 4, 5, 6, 7, 8, 9, 10, 11] rfl rfl rfl 0 9 rfl rfl rfl ⟨Nat.le_of_ble_eq_true rfl, Nat.le_of_ble_eq_true rfl⟩ ⟨Nat.le_refl _, Nat.le_refl _⟩ (Nat.le_of_ble_eq_true rfl) rfl dX10_lookedAt_7 (fun H locs hH => ?_)
    refine lv_astore_n (lv' := [(3, .ref (ad 9)), (0, .ref (ad 0)), (1, .ref (ad 12)), (2, .int b)]) hx hb dX10_lookedAt_10 rfl hl (by decide) rfl (fun ls hl => ?_)
    refine lv_aload_n hx hb dX10_lookedAt_11 rfl (lv_at hl 2 rfl) ?_
    refine lv_aload_n hx hb dX10_lookedAt_12 rfl (lv_at hl 2 rfl) ?_
    refine lv_iload_n hx hb dX10_lookedAt_13 rfl (lv_at hl 3 rfl) ?_
    refine lv_iconst (v := 1) hx hb dX10_lookedAt_14 (by decide) ?_
    refine x_callV (ws' := WWB G ad σ) (As := [.int b, .int 1]) (rest := [.ref (ad 12)]) (st' := [.int ((σ 14) (7 * bj + 1)), .ref (ad 12)]) hC hK hZ hA hl.1 hH (k_X2_numberOf l G (pk ad [12, 13, 14, 15]) (pk σ [12, 13, 14, 15]) b 1 bj 1 hbN rfl (by omega) (by decide)) lk_X10_70 [12, 13, 14, 15] rfl rfl rfl 12 1 rfl rfl rfl ⟨Nat.le_of_ble_eq_true rfl, Nat.le_of_ble_eq_true rfl⟩ ⟨Nat.le_refl _, Nat.le_refl _⟩ (Nat.le_of_ble_eq_true rfl) rfl dX10_lookedAt_15 (fun H locs hH => ?_)
    refine x_callS (ws' := WWB G ad σ) (As := [.ref (ad 12), .int ((σ 14) (7 * bj + 1))]) (rest := []) (st' := [.int (bbF k ((σ 14) (7 * bj + 1)))]) hC hK hZ hA hl.1 hH (k_X10_betBit l G (pk ad [12, 13, 14, 15]) (pk σ [12, 13, 14, 15]) ((σ 14) (7 * bj + 1)) k h hb3 hb4 hh4 hk6) lk_X10_94 [12, 13, 14, 15] rfl rfl rfl rfl ⟨Nat.le_of_ble_eq_true rfl, Nat.le_of_ble_eq_true rfl⟩ ⟨Nat.le_refl _, Nat.le_refl _⟩ (Nat.le_of_ble_eq_true rfl) rfl dX10_lookedAt_18 (fun H locs hH => ?_)
    refine lv_istore (lv' := [(4, .int (bbF k ((σ 14) (7 * bj + 1)))), (3, .ref (ad 9)), (0, .ref (ad 0)), (1, .ref (ad 12)), (2, .int b)]) hx hb dX10_lookedAt_21 hl (by decide) rfl (fun ls hl => ?_)
    refine lv_aload_n hx hb dX10_lookedAt_23 rfl (lv_at hl 1 rfl) ?_
    refine lv_ifnull hx hb dX10_lookedAt_24 ?_
    refine lv_aload_n hx hb dX10_lookedAt_27 rfl (lv_at hl 1 rfl) ?_
    refine x_callG (ws' := WWB G ad σ) (As := []) (rest := []) (st' := [.int (bI (True))]) hC hK hZ hA hl.1 hH (k_X1_looksAtBoth_X4 l G (pk ad [9]) (pk σ [9])) (lu_X10_98_X4 hC hK ⟨Nat.le_of_ble_eq_true rfl, Nat.le_of_ble_eq_true rfl⟩) [9] rfl rfl rfl 9 3 rfl rfl rfl ⟨Nat.le_refl _, Nat.le_refl _⟩ (Nat.le_of_ble_eq_true rfl) rfl dX10_lookedAt_28 (fun H locs hH => ?_)
    refine x_beq (tgt := 49) hC dX10_lookedAt_31 (by decide) (fun c31 => ?_) (fun c31 => ?_)
    · exact absurd trivial c31
    refine lv_iload hx hb dX10_lookedAt_34 (lv_at hl 0 rfl) ?_
    refine lv_aload_n hx hb dX10_lookedAt_36 rfl (lv_at hl 3 rfl) ?_
    refine lv_aload_n hx hb dX10_lookedAt_37 rfl (lv_at hl 3 rfl) ?_
    refine lv_iload_n hx hb dX10_lookedAt_38 rfl (lv_at hl 4 rfl) ?_
    refine lv_iconst (v := 2) hx hb dX10_lookedAt_39 (by decide) ?_
    refine x_callV (ws' := WWB G ad σ) (As := [.int b, .int 2]) (rest := [.ref (ad 12), .int (bbF k ((σ 14) (7 * bj + 1)))]) (st' := [.int ((σ 14) (7 * bj + 2)), .ref (ad 12), .int (bbF k ((σ 14) (7 * bj + 1)))]) hC hK hZ hA hl.1 hH (k_X2_numberOf l G (pk ad [12, 13, 14, 15]) (pk σ [12, 13, 14, 15]) b 2 bj 2 hbN rfl (by omega) (by decide)) lk_X10_70 [12, 13, 14, 15] rfl rfl rfl 12 1 rfl rfl rfl ⟨Nat.le_of_ble_eq_true rfl, Nat.le_of_ble_eq_true rfl⟩ ⟨Nat.le_refl _, Nat.le_refl _⟩ (Nat.le_of_ble_eq_true rfl) rfl dX10_lookedAt_40 (fun H locs hH => ?_)
    refine x_callS (ws' := WWB G ad σ) (As := [.ref (ad 12), .int ((σ 14) (7 * bj + 2))]) (rest := [.int (bbF k ((σ 14) (7 * bj + 1)))]) (st' := [.int (bbF k ((σ 14) (7 * bj + 2))), .int (bbF k ((σ 14) (7 * bj + 1)))]) hC hK hZ hA hl.1 hH (k_X10_betBit l G (pk ad [12, 13, 14, 15]) (pk σ [12, 13, 14, 15]) ((σ 14) (7 * bj + 2)) k h hb3 hb4 hh4 hk6) lk_X10_94 [12, 13, 14, 15] rfl rfl rfl rfl ⟨Nat.le_of_ble_eq_true rfl, Nat.le_of_ble_eq_true rfl⟩ ⟨Nat.le_refl _, Nat.le_refl _⟩ (Nat.le_of_ble_eq_true rfl) rfl dX10_lookedAt_43 (fun H locs hH => ?_)
    refine lv_ior hx hb dX10_lookedAt_46 ?_
    refine lv_istore (lv' := [(4, .int ((bbF k ((σ 14) (7 * bj + 1))) ||| (bbF k ((σ 14) (7 * bj + 2))))), (3, .ref (ad 9)), (0, .ref (ad 0)), (1, .ref (ad 12)), (2, .int b)]) hx hb dX10_lookedAt_47 hl (by decide) rfl (fun ls hl => ?_)
    refine lv_iload hx hb dX10_lookedAt_49 (lv_at hl 0 rfl) ?_
    exact x_iret hC hr hkL hH (by exact if_neg (fun z => z.elim (fun q => absurd (q.symm.trans h3) (by decide)) (fun q => absurd (q.symm.trans h3) (by decide)))) rfl dX10_lookedAt_51
  · refine x_topE (y := 4) h4 ?_
    refine x_callV (ws' := WWB G ad σ) (As := [.int 4]) (rest := []) (st' := [.ref (ad 10)]) hC hK hZ hA hl.1 hH (k_X10_kindOf_4 l G (pk ad [0, 1, 2, 3, 4, 5, 6, 7, 8, 9, 10, 11]) (pk σ [0, 1, 2, 3, 4, 5, 6, 7, 8, 9, 10, 11]) 4 rfl) lk_X10_74 [0, 1, 2, 3, 4, 5, 6, 7, 8, 9, 10, 11] rfl rfl rfl 0 9 rfl rfl rfl ⟨Nat.le_of_ble_eq_true rfl, Nat.le_of_ble_eq_true rfl⟩ ⟨Nat.le_refl _, Nat.le_refl _⟩ (Nat.le_of_ble_eq_true rfl) rfl dX10_lookedAt_7 (fun H locs hH => ?_)
    refine lv_astore_n (lv' := [(3, .ref (ad 10)), (0, .ref (ad 0)), (1, .ref (ad 12)), (2, .int b)]) hx hb dX10_lookedAt_10 rfl hl (by decide) rfl (fun ls hl => ?_)
    refine lv_aload_n hx hb dX10_lookedAt_11 rfl (lv_at hl 2 rfl) ?_
    refine lv_aload_n hx hb dX10_lookedAt_12 rfl (lv_at hl 2 rfl) ?_
    refine lv_iload_n hx hb dX10_lookedAt_13 rfl (lv_at hl 3 rfl) ?_
    refine lv_iconst (v := 1) hx hb dX10_lookedAt_14 (by decide) ?_
    refine x_callV (ws' := WWB G ad σ) (As := [.int b, .int 1]) (rest := [.ref (ad 12)]) (st' := [.int ((σ 14) (7 * bj + 1)), .ref (ad 12)]) hC hK hZ hA hl.1 hH (k_X2_numberOf l G (pk ad [12, 13, 14, 15]) (pk σ [12, 13, 14, 15]) b 1 bj 1 hbN rfl (by omega) (by decide)) lk_X10_70 [12, 13, 14, 15] rfl rfl rfl 12 1 rfl rfl rfl ⟨Nat.le_of_ble_eq_true rfl, Nat.le_of_ble_eq_true rfl⟩ ⟨Nat.le_refl _, Nat.le_refl _⟩ (Nat.le_of_ble_eq_true rfl) rfl dX10_lookedAt_15 (fun H locs hH => ?_)
    refine x_callS (ws' := WWB G ad σ) (As := [.ref (ad 12), .int ((σ 14) (7 * bj + 1))]) (rest := []) (st' := [.int (bbF k ((σ 14) (7 * bj + 1)))]) hC hK hZ hA hl.1 hH (k_X10_betBit l G (pk ad [12, 13, 14, 15]) (pk σ [12, 13, 14, 15]) ((σ 14) (7 * bj + 1)) k h hb3 hb4 hh4 hk6) lk_X10_94 [12, 13, 14, 15] rfl rfl rfl rfl ⟨Nat.le_of_ble_eq_true rfl, Nat.le_of_ble_eq_true rfl⟩ ⟨Nat.le_refl _, Nat.le_refl _⟩ (Nat.le_of_ble_eq_true rfl) rfl dX10_lookedAt_18 (fun H locs hH => ?_)
    refine lv_istore (lv' := [(4, .int (bbF k ((σ 14) (7 * bj + 1)))), (3, .ref (ad 10)), (0, .ref (ad 0)), (1, .ref (ad 12)), (2, .int b)]) hx hb dX10_lookedAt_21 hl (by decide) rfl (fun ls hl => ?_)
    refine lv_aload_n hx hb dX10_lookedAt_23 rfl (lv_at hl 1 rfl) ?_
    refine lv_ifnull hx hb dX10_lookedAt_24 ?_
    refine lv_aload_n hx hb dX10_lookedAt_27 rfl (lv_at hl 1 rfl) ?_
    refine x_callG (ws' := WWB G ad σ) (As := []) (rest := []) (st' := [.int (bI (True))]) hC hK hZ hA hl.1 hH (k_X1_looksAtBoth_X6 l G (pk ad [10]) (pk σ [10])) (lu_X10_98_X6 hC hK ⟨Nat.le_of_ble_eq_true rfl, Nat.le_of_ble_eq_true rfl⟩) [10] rfl rfl rfl 10 5 rfl rfl rfl ⟨Nat.le_refl _, Nat.le_refl _⟩ (Nat.le_of_ble_eq_true rfl) rfl dX10_lookedAt_28 (fun H locs hH => ?_)
    refine x_beq (tgt := 49) hC dX10_lookedAt_31 (by decide) (fun c31 => ?_) (fun c31 => ?_)
    · exact absurd trivial c31
    refine lv_iload hx hb dX10_lookedAt_34 (lv_at hl 0 rfl) ?_
    refine lv_aload_n hx hb dX10_lookedAt_36 rfl (lv_at hl 3 rfl) ?_
    refine lv_aload_n hx hb dX10_lookedAt_37 rfl (lv_at hl 3 rfl) ?_
    refine lv_iload_n hx hb dX10_lookedAt_38 rfl (lv_at hl 4 rfl) ?_
    refine lv_iconst (v := 2) hx hb dX10_lookedAt_39 (by decide) ?_
    refine x_callV (ws' := WWB G ad σ) (As := [.int b, .int 2]) (rest := [.ref (ad 12), .int (bbF k ((σ 14) (7 * bj + 1)))]) (st' := [.int ((σ 14) (7 * bj + 2)), .ref (ad 12), .int (bbF k ((σ 14) (7 * bj + 1)))]) hC hK hZ hA hl.1 hH (k_X2_numberOf l G (pk ad [12, 13, 14, 15]) (pk σ [12, 13, 14, 15]) b 2 bj 2 hbN rfl (by omega) (by decide)) lk_X10_70 [12, 13, 14, 15] rfl rfl rfl 12 1 rfl rfl rfl ⟨Nat.le_of_ble_eq_true rfl, Nat.le_of_ble_eq_true rfl⟩ ⟨Nat.le_refl _, Nat.le_refl _⟩ (Nat.le_of_ble_eq_true rfl) rfl dX10_lookedAt_40 (fun H locs hH => ?_)
    refine x_callS (ws' := WWB G ad σ) (As := [.ref (ad 12), .int ((σ 14) (7 * bj + 2))]) (rest := [.int (bbF k ((σ 14) (7 * bj + 1)))]) (st' := [.int (bbF k ((σ 14) (7 * bj + 2))), .int (bbF k ((σ 14) (7 * bj + 1)))]) hC hK hZ hA hl.1 hH (k_X10_betBit l G (pk ad [12, 13, 14, 15]) (pk σ [12, 13, 14, 15]) ((σ 14) (7 * bj + 2)) k h hb3 hb4 hh4 hk6) lk_X10_94 [12, 13, 14, 15] rfl rfl rfl rfl ⟨Nat.le_of_ble_eq_true rfl, Nat.le_of_ble_eq_true rfl⟩ ⟨Nat.le_refl _, Nat.le_refl _⟩ (Nat.le_of_ble_eq_true rfl) rfl dX10_lookedAt_43 (fun H locs hH => ?_)
    refine lv_ior hx hb dX10_lookedAt_46 ?_
    refine lv_istore (lv' := [(4, .int ((bbF k ((σ 14) (7 * bj + 1))) ||| (bbF k ((σ 14) (7 * bj + 2))))), (3, .ref (ad 10)), (0, .ref (ad 0)), (1, .ref (ad 12)), (2, .int b)]) hx hb dX10_lookedAt_47 hl (by decide) rfl (fun ls hl => ?_)
    refine lv_iload hx hb dX10_lookedAt_49 (lv_at hl 0 rfl) ?_
    exact x_iret hC hr hkL hH (by exact if_neg (fun z => z.elim (fun q => absurd (q.symm.trans h4) (by decide)) (fun q => absurd (q.symm.trans h4) (by decide)))) rfl dX10_lookedAt_51
  · refine x_topE (y := 5) h5 ?_
    refine x_callV (ws' := WWB G ad σ) (As := [.int 5]) (rest := []) (st' := [.ref (ad 11)]) hC hK hZ hA hl.1 hH (k_X10_kindOf_5 l G (pk ad [0, 1, 2, 3, 4, 5, 6, 7, 8, 9, 10, 11]) (pk σ [0, 1, 2, 3, 4, 5, 6, 7, 8, 9, 10, 11]) 5 rfl) lk_X10_74 [0, 1, 2, 3, 4, 5, 6, 7, 8, 9, 10, 11] rfl rfl rfl 0 9 rfl rfl rfl ⟨Nat.le_of_ble_eq_true rfl, Nat.le_of_ble_eq_true rfl⟩ ⟨Nat.le_refl _, Nat.le_refl _⟩ (Nat.le_of_ble_eq_true rfl) rfl dX10_lookedAt_7 (fun H locs hH => ?_)
    refine lv_astore_n (lv' := [(3, .ref (ad 11)), (0, .ref (ad 0)), (1, .ref (ad 12)), (2, .int b)]) hx hb dX10_lookedAt_10 rfl hl (by decide) rfl (fun ls hl => ?_)
    refine lv_aload_n hx hb dX10_lookedAt_11 rfl (lv_at hl 2 rfl) ?_
    refine lv_aload_n hx hb dX10_lookedAt_12 rfl (lv_at hl 2 rfl) ?_
    refine lv_iload_n hx hb dX10_lookedAt_13 rfl (lv_at hl 3 rfl) ?_
    refine lv_iconst (v := 1) hx hb dX10_lookedAt_14 (by decide) ?_
    refine x_callV (ws' := WWB G ad σ) (As := [.int b, .int 1]) (rest := [.ref (ad 12)]) (st' := [.int ((σ 14) (7 * bj + 1)), .ref (ad 12)]) hC hK hZ hA hl.1 hH (k_X2_numberOf l G (pk ad [12, 13, 14, 15]) (pk σ [12, 13, 14, 15]) b 1 bj 1 hbN rfl (by omega) (by decide)) lk_X10_70 [12, 13, 14, 15] rfl rfl rfl 12 1 rfl rfl rfl ⟨Nat.le_of_ble_eq_true rfl, Nat.le_of_ble_eq_true rfl⟩ ⟨Nat.le_refl _, Nat.le_refl _⟩ (Nat.le_of_ble_eq_true rfl) rfl dX10_lookedAt_15 (fun H locs hH => ?_)
    refine x_callS (ws' := WWB G ad σ) (As := [.ref (ad 12), .int ((σ 14) (7 * bj + 1))]) (rest := []) (st' := [.int (bbF k ((σ 14) (7 * bj + 1)))]) hC hK hZ hA hl.1 hH (k_X10_betBit l G (pk ad [12, 13, 14, 15]) (pk σ [12, 13, 14, 15]) ((σ 14) (7 * bj + 1)) k h hb3 hb4 hh4 hk6) lk_X10_94 [12, 13, 14, 15] rfl rfl rfl rfl ⟨Nat.le_of_ble_eq_true rfl, Nat.le_of_ble_eq_true rfl⟩ ⟨Nat.le_refl _, Nat.le_refl _⟩ (Nat.le_of_ble_eq_true rfl) rfl dX10_lookedAt_18 (fun H locs hH => ?_)
    refine lv_istore (lv' := [(4, .int (bbF k ((σ 14) (7 * bj + 1)))), (3, .ref (ad 11)), (0, .ref (ad 0)), (1, .ref (ad 12)), (2, .int b)]) hx hb dX10_lookedAt_21 hl (by decide) rfl (fun ls hl => ?_)
    refine lv_aload_n hx hb dX10_lookedAt_23 rfl (lv_at hl 1 rfl) ?_
    refine lv_ifnull hx hb dX10_lookedAt_24 ?_
    refine lv_aload_n hx hb dX10_lookedAt_27 rfl (lv_at hl 1 rfl) ?_
    refine x_callG (ws' := WWB G ad σ) (As := []) (rest := []) (st' := [.int (bI (True))]) hC hK hZ hA hl.1 hH (k_X1_looksAtBoth_X5 l G (pk ad [11]) (pk σ [11])) (lu_X10_98_X5 hC hK ⟨Nat.le_of_ble_eq_true rfl, Nat.le_of_ble_eq_true rfl⟩) [11] rfl rfl rfl 11 4 rfl rfl rfl ⟨Nat.le_refl _, Nat.le_refl _⟩ (Nat.le_of_ble_eq_true rfl) rfl dX10_lookedAt_28 (fun H locs hH => ?_)
    refine x_beq (tgt := 49) hC dX10_lookedAt_31 (by decide) (fun c31 => ?_) (fun c31 => ?_)
    · exact absurd trivial c31
    refine lv_iload hx hb dX10_lookedAt_34 (lv_at hl 0 rfl) ?_
    refine lv_aload_n hx hb dX10_lookedAt_36 rfl (lv_at hl 3 rfl) ?_
    refine lv_aload_n hx hb dX10_lookedAt_37 rfl (lv_at hl 3 rfl) ?_
    refine lv_iload_n hx hb dX10_lookedAt_38 rfl (lv_at hl 4 rfl) ?_
    refine lv_iconst (v := 2) hx hb dX10_lookedAt_39 (by decide) ?_
    refine x_callV (ws' := WWB G ad σ) (As := [.int b, .int 2]) (rest := [.ref (ad 12), .int (bbF k ((σ 14) (7 * bj + 1)))]) (st' := [.int ((σ 14) (7 * bj + 2)), .ref (ad 12), .int (bbF k ((σ 14) (7 * bj + 1)))]) hC hK hZ hA hl.1 hH (k_X2_numberOf l G (pk ad [12, 13, 14, 15]) (pk σ [12, 13, 14, 15]) b 2 bj 2 hbN rfl (by omega) (by decide)) lk_X10_70 [12, 13, 14, 15] rfl rfl rfl 12 1 rfl rfl rfl ⟨Nat.le_of_ble_eq_true rfl, Nat.le_of_ble_eq_true rfl⟩ ⟨Nat.le_refl _, Nat.le_refl _⟩ (Nat.le_of_ble_eq_true rfl) rfl dX10_lookedAt_40 (fun H locs hH => ?_)
    refine x_callS (ws' := WWB G ad σ) (As := [.ref (ad 12), .int ((σ 14) (7 * bj + 2))]) (rest := [.int (bbF k ((σ 14) (7 * bj + 1)))]) (st' := [.int (bbF k ((σ 14) (7 * bj + 2))), .int (bbF k ((σ 14) (7 * bj + 1)))]) hC hK hZ hA hl.1 hH (k_X10_betBit l G (pk ad [12, 13, 14, 15]) (pk σ [12, 13, 14, 15]) ((σ 14) (7 * bj + 2)) k h hb3 hb4 hh4 hk6) lk_X10_94 [12, 13, 14, 15] rfl rfl rfl rfl ⟨Nat.le_of_ble_eq_true rfl, Nat.le_of_ble_eq_true rfl⟩ ⟨Nat.le_refl _, Nat.le_refl _⟩ (Nat.le_of_ble_eq_true rfl) rfl dX10_lookedAt_43 (fun H locs hH => ?_)
    refine lv_ior hx hb dX10_lookedAt_46 ?_
    refine lv_istore (lv' := [(4, .int ((bbF k ((σ 14) (7 * bj + 1))) ||| (bbF k ((σ 14) (7 * bj + 2))))), (3, .ref (ad 11)), (0, .ref (ad 0)), (1, .ref (ad 12)), (2, .int b)]) hx hb dX10_lookedAt_47 hl (by decide) rfl (fun ls hl => ?_)
    refine lv_iload hx hb dX10_lookedAt_49 (lv_at hl 0 rfl) ?_
    exact x_iret hC hr hkL hH (by exact if_neg (fun z => z.elim (fun q => absurd (q.symm.trans h5) (by decide)) (fun q => absurd (q.symm.trans h5) (by decide)))) rfl dX10_lookedAt_51
