/-! what is told, as numbers; ways, standings, purses -/
noncomputable def cI {α : Type} (P : Prop) (a b : α) : α := @ite α P (Classical.propDecidable P) a b
theorem cI_t {α : Type} {P : Prop} {a b : α} (h : P) : cI P a b = a := if_pos h
theorem cI_f {α : Type} {P : Prop} {a b : α} (h : ¬ P) : cI P a b = b := if_neg h
abbrev Bk : Type := (Nat × Nat) × (Nat → Int32) × (Nat → Int32) × (Nat → Int32)
def bH (β : Bk) : Nat := β.1.1
def bK (β : Bk) : Nat := β.1.2
def bC (β : Bk) : Nat → Int32 := β.2.1
def bN (β : Bk) : Nat → Int32 := β.2.2.1
def bF (β : Bk) : Nat → Int32 := β.2.2.2
/-- the reference's row of 52 tells β -/
def RB (f : Nat → Int32) (β : Bk) : Prop := f 0 = nI (bH β) ∧ f 1 = nI (bK β) ∧ bH β ≤ 4 ∧ bK β ≤ 6 ∧ (∀ j, j < 4 → f (2 + j) = bC β j) ∧ (∀ j, j < 4 → f (6 + j) = bF β j) ∧ (∀ j, j < 42 → f (10 + j) = bN β j)
theorem sh1 : ∀ k, k < 7 → (1 : Int32) <<< (nI k &&& 31) = nI (2 ^ k) := by decide
theorem RB.p0 {f : Nat → Int32} {β : Bk} (h : RB f β) : (1 : Int32) <<< (f 0 &&& 31) = nI (2 ^ bH β) := by
  have := h.2.2.1
  rw [h.1]; exact sh1 _ (by omega)
theorem RB.p1 {f : Nat → Int32} {β : Bk} (h : RB f β) : (1 : Int32) <<< (f 1 &&& 31) = nI (2 ^ bK β) := by
  have := h.2.2.2.1
  rw [h.2.1]; exact sh1 _ (by omega)
theorem pw4 {n : Nat} (h : n ≤ 4) : 2 ^ n ≤ 16 := Nat.pow_le_pow_right (by omega) h
theorem pw6 {n : Nat} (h : n ≤ 6) : 2 ^ n ≤ 64 := Nat.pow_le_pow_right (by omega) h
def nm (β : Bk) (b w : Nat) : Int32 := bN β (7 * b + w)
def inb (v : Int32) (n : Nat) : Prop := 0 ≤ v ∧ v < nI n
def tb (x b : Int32) : Prop := (x >>> (b &&& 31)) &&& 1 = 1
def soP (m e w : Int32) : Prop := (¬ 10 ≤ m ∧ tb e m) ∨ (10 ≤ m ∧ tb w (m - 10))
def wonP (kind : Int32) (f s : Prop) : Prop := if kind = 1 then ¬ f else if kind = 2 then f ∧ s else if kind = 3 then f ∨ s else if kind = 4 then ¬ (f ↔ s) else if kind = 5 then ¬ f ∧ ¬ s else f
theorem wonP_d {x : Int32} {f s : Prop} (h : x.toInt < 1 ∨ 5 < x.toInt) : wonP x f s ↔ f := by
  have n1 : ¬ x = 1 := fun e => by subst e; revert h; decide
  have n2 : ¬ x = 2 := fun e => by subst e; revert h; decide
  have n3 : ¬ x = 3 := fun e => by subst e; revert h; decide
  have n4 : ¬ x = 4 := fun e => by subst e; revert h; decide
  have n5 : ¬ x = 5 := fun e => by subst e; revert h; decide
  rw [wonP, if_neg n1, if_neg n2, if_neg n3, if_neg n4, if_neg n5]
theorem sw5 (x : Int32) : x = 1 ∨ x = 2 ∨ x = 3 ∨ x = 4 ∨ x = 5 ∨ (x.toInt < 1 ∨ 5 < x.toInt) := by
  have e : ∀ n : Int, x.toInt = n → x = Int32.ofInt n := fun n h => by rw [← h]; exact (Int32.ofInt_toInt x).symm
  have h := fun n h => e n h
  by_cases h1 : x.toInt = 1
  · exact Or.inl (e 1 h1)
  by_cases h2 : x.toInt = 2
  · exact Or.inr (Or.inl (e 2 h2))
  by_cases h3 : x.toInt = 3
  · exact Or.inr (Or.inr (Or.inl (e 3 h3)))
  by_cases h4 : x.toInt = 4
  · exact Or.inr (Or.inr (Or.inr (Or.inl (e 4 h4))))
  by_cases h5 : x.toInt = 5
  · exact Or.inr (Or.inr (Or.inr (Or.inr (Or.inl (e 5 h5)))))
  · exact Or.inr (Or.inr (Or.inr (Or.inr (Or.inr (by omega)))))
theorem bI_inj {P Q : Prop} : bI P = bI Q ↔ (P ↔ Q) := by
  by_cases hp : P <;> by_cases hq : Q <;> simp [bI, hp, hq]
theorem bI_1 {P : Prop} : bI P = 1 ↔ P := by
  by_cases hp : P <;> simp [bI, hp]
def wonB (β : Bk) (b : Nat) (e w : Int32) : Prop := wonP (nm β b 0) (soP (nm β b 1) e w) (soP (nm β b 2) e w)
def isWayP (β : Bk) (e w : Int32) : Prop := ∀ j, j < bK β → (wonB β j e w ↔ tb w (nI j))
noncomputable def fw (β : Bk) (e : Int32) : Nat → Int32 × Int32 × Int32 × Int32
  | 0 => (0, -9, 0, nI (2 ^ bK β) - 1)
  | i + 1 => cI (isWayP β e (nI i)) ((fw β e i).1 + 1, if 0 ≤ (fw β e i).2.1 then (fw β e i).2.1 else nI i, (fw β e i).2.2.1 ||| nI i, (fw β e i).2.2.2 &&& nI i) (fw β e i)
theorem fw_t {β : Bk} {e : Int32} {i : Nat} (h : isWayP β e (nI i)) : fw β e (i + 1) = ((fw β e i).1 + 1, if 0 ≤ (fw β e i).2.1 then (fw β e i).2.1 else nI i, (fw β e i).2.2.1 ||| nI i, (fw β e i).2.2.2 &&& nI i) := cI_t h
theorem fw_f {β : Bk} {e : Int32} {i : Nat} (h : ¬ isWayP β e (nI i)) : fw β e (i + 1) = fw β e i := cI_f h
noncomputable def fwA (β : Bk) (e : Int32) : Int32 × Int32 × Int32 × Int32 := fw β e (2 ^ bK β)
noncomputable def standF (ways all some b : Int32) : Int32 := if ways = 0 then 2 else cI (tb all b) 1 (if (some >>> (b &&& 31)) &&& 1 = 0 then 0 else 2)
noncomputable def stP (β : Bk) (e : Int32) (b : Nat) : Int32 := standF (fwA β e).1 (fwA β e).2.2.2 (fwA β e).2.2.1 (nI b)
def sideR (β : Bk) (p : Int32) (b : Nat) : Int32 := if nm β b 5 = p then 1 else if nm β b 6 = p then -1 else 0
noncomputable def dltR (β : Bk) (p e : Int32) (b : Nat) : Int32 := if stP β e b = 1 then sideR β p b * nm β b 3 * nm β b 4 else if stP β e b = 0 then -sideR β p b * nm β b 3 else 0
noncomputable def purR (β : Bk) (p e : Int32) : Nat → Int32
  | 0 => 0
  | b + 1 => purR β p e b + dltR β p e b
noncomputable def purA (β : Bk) (p e : Int32) : Int32 := purR β p e (bK β)
noncomputable def wfac (β : Bk) (e : Int32) (i : Nat) : Int64 := cI (tb e (nI i)) (bC β i).toInt64 (100 - bC β i).toInt64
noncomputable def wgt (β : Bk) (e : Int32) : Nat → Int64
  | 0 => 1
  | i + 1 => wgt β e i * wfac β e i
noncomputable def wgtA (β : Bk) (e : Int32) : Int64 := wgt β e (bH β)
def whl : Nat → Int64
  | 0 => 1
  | i + 1 => whl i * 100
theorem soP_t1 {m e w : Int32} (h : ¬ 10 ≤ m) (h2 : (e >>> (m &&& 31)) &&& 1 = 1) : soP m e w := Or.inl ⟨h, h2⟩
theorem soP_t2 {m e w : Int32} (h : 10 ≤ m) (h2 : (w >>> ((m - 10) &&& 31)) &&& 1 = 1) : soP m e w := Or.inr ⟨h, h2⟩
theorem soP_f1 {m e w : Int32} (h : ¬ 10 ≤ m) (h2 : ¬ (e >>> (m &&& 31)) &&& 1 = 1) : ¬ soP m e w := fun z => z.elim (fun q => h2 q.2) (fun q => h q.1)
theorem soP_f2 {m e w : Int32} (h : 10 ≤ m) (h2 : ¬ (w >>> ((m - 10) &&& 31)) &&& 1 = 1) : ¬ soP m e w := fun z => z.elim (fun q => q.1 h) (fun q => h2 q.2)
set_option maxHeartbeats 4000000 in
set_option maxRecDepth 100000 in
theorem k_X12_isBet (l : Launch) (G : GP) (ad : Nat → Nat) (σ : Nat → Nat → Int32) (b : Int32) (β : Bk) (hR : RB (σ 2) β) : CT l G yX12_isBet cX12_isBet 2 (some .boolean) 1 [.ref (ad 0), .int b] (WM G ad σ) (some (.int (bI (0 ≤ b ∧ b < nI (bK β))))) (WM G ad σ) := by
  refine x_meth "BetsOnBetsModel" rfl (by decide +kernel) (by rfl) (Nat.le_of_ble_eq_true rfl) ?_
  intro pP eE sS mM args below meth cC A ls hC hr hkL hK hZ hA hH hl
  have hx := hC.1
  have hb := hC.2.1
  have hl : lv_has ls 2 [(0, .ref (ad 0)), (1, .int b)] := hl
  have hh4 := hR.2.2.1
  have hk6 := hR.2.2.2.1
  have pwh := pw4 hh4
  have pwk := pw6 hk6
  refine lv_iload_n hx hb dX12_isBet_0 rfl (lv_at hl 1 rfl) ?_
  refine lv_aload_n hx hb dX12_isBet_1 rfl (lv_at hl 0 rfl) ?_
  refine gf_X12_13 (v := .ref (ad 2)) hC hK hH 0 rfl rfl dX12_isBet_2 ?_
  refine lv_iconst (v := 1) hx hb dX12_isBet_5 (by decide) ?_
  refine x_ialN (f := (σ 2)) hC hK hH 2 1 rfl rfl (by decide) (Nat.le_of_ble_eq_true rfl) dX12_isBet_6 ?_
  refine x_topE (y := (nI (bK β))) (hR.2.1) ?_
  refine x_callS (ws' := WM G ad σ) (As := [.int b, .int (nI (bK β))]) (rest := []) (st' := [.int (bI (0 ≤ b ∧ b < (nI (bK β))))]) hC hK hZ hA hl.1 hH (k_X12_isIn l G (pk ad []) (pk σ []) b (nI (bK β))) lk_X12_31 [] rfl rfl rfl rfl ⟨Nat.le_of_ble_eq_true rfl, Nat.le_of_ble_eq_true rfl⟩ ⟨Nat.le_refl _, Nat.le_refl _⟩ (Nat.le_of_ble_eq_true rfl) rfl dX12_isBet_7 (fun H locs hH => ?_)
  exact x_zret hC hr hkL hH nar_bI (bI_e (by first | rfl | simp)) rfl dX12_isBet_10
set_option maxHeartbeats 4000000 in
set_option maxRecDepth 100000 in
theorem k_X12_ends (l : Launch) (G : GP) (ad : Nat → Nat) (σ : Nat → Nat → Int32) (β : Bk) (hR : RB (σ 2) β) : CT l G yX12_ends cX12_ends 1 (some .int) 0 [.ref (ad 0)] (WM G ad σ) (some (.int (nI (2 ^ bH β)))) (WM G ad σ) := by
  refine x_meth "BetsOnBetsModel" rfl (by decide +kernel) (by rfl) (Nat.le_of_ble_eq_true rfl) ?_
  intro pP eE sS mM args below meth cC A ls hC hr hkL hK hZ hA hH hl
  have hx := hC.1
  have hb := hC.2.1
  have hl : lv_has ls 1 [(0, .ref (ad 0))] := hl
  have hh4 := hR.2.2.1
  have hk6 := hR.2.2.2.1
  have pwh := pw4 hh4
  have pwk := pw6 hk6
  refine lv_iconst (v := 1) hx hb dX12_ends_0 (by decide) ?_
  refine lv_aload_n hx hb dX12_ends_1 rfl (lv_at hl 0 rfl) ?_
  refine gf_X12_13 (v := .ref (ad 2)) hC hK hH 0 rfl rfl dX12_ends_2 ?_
  refine lv_iconst (v := 0) hx hb dX12_ends_5 (by decide) ?_
  refine x_ialN (f := (σ 2)) hC hK hH 2 0 rfl rfl (by decide) (Nat.le_of_ble_eq_true rfl) dX12_ends_6 ?_
  refine lv_ishl hx hb dX12_ends_7 ?_
  refine x_topE (y := (nI (2 ^ bH β))) hR.p0 ?_
  exact x_iret hC hr hkL hH rfl rfl dX12_ends_8
set_option maxHeartbeats 4000000 in
set_option maxRecDepth 100000 in
theorem k_X12_isEnd (l : Launch) (G : GP) (ad : Nat → Nat) (σ : Nat → Nat → Int32) (e : Int32) (β : Bk) (hR : RB (σ 2) β) : CT l G yX12_isEnd cX12_isEnd 2 (some .boolean) 1 [.ref (ad 0), .int e] (WM G ad σ) (some (.int (bI (0 ≤ e ∧ e < nI (2 ^ bH β))))) (WM G ad σ) := by
  refine x_meth "BetsOnBetsModel" rfl (by decide +kernel) (by rfl) (Nat.le_of_ble_eq_true rfl) ?_
  intro pP eE sS mM args below meth cC A ls hC hr hkL hK hZ hA hH hl
  have hx := hC.1
  have hb := hC.2.1
  have hl : lv_has ls 2 [(0, .ref (ad 0)), (1, .int e)] := hl
  have hh4 := hR.2.2.1
  have hk6 := hR.2.2.2.1
  have pwh := pw4 hh4
  have pwk := pw6 hk6
  refine lv_iload_n hx hb dX12_isEnd_0 rfl (lv_at hl 1 rfl) ?_
  refine lv_aload_n hx hb dX12_isEnd_1 rfl (lv_at hl 0 rfl) ?_
  refine x_callVA (ws' := WM G ad σ) (As := []) (rest := [.int e]) (st' := [.int (nI (2 ^ bH β)), .int e]) hC hK hZ hA hl.1 hH (k_X12_ends l G ad σ β hR) lk_X12_35 rfl 0 11 rfl rfl rfl ⟨Nat.le_of_ble_eq_true rfl, Nat.le_of_ble_eq_true rfl⟩ ⟨Nat.le_refl _, Nat.le_refl _⟩ (Nat.le_of_ble_eq_true rfl) rfl dX12_isEnd_2 (fun H locs hH => ?_)
  refine x_callS (ws' := WM G ad σ) (As := [.int e, .int (nI (2 ^ bH β))]) (rest := []) (st' := [.int (bI (0 ≤ e ∧ e < (nI (2 ^ bH β))))]) hC hK hZ hA hl.1 hH (k_X12_isIn l G (pk ad []) (pk σ []) e (nI (2 ^ bH β))) lk_X12_31 [] rfl rfl rfl rfl ⟨Nat.le_of_ble_eq_true rfl, Nat.le_of_ble_eq_true rfl⟩ ⟨Nat.le_refl _, Nat.le_refl _⟩ (Nat.le_of_ble_eq_true rfl) rfl dX12_isEnd_5 (fun H locs hH => ?_)
  exact x_zret hC hr hkL hH nar_bI (bI_e (by first | rfl | simp)) rfl dX12_isEnd_8
set_option maxHeartbeats 4000000 in
set_option maxRecDepth 100000 in
theorem k_X12_get (l : Launch) (G : GP) (ad : Nat → Nat) (σ : Nat → Nat → Int32) (b : Int32) (w : Int32) (β : Bk) (bj : Nat) (wj : Nat) (hR : RB (σ 2) β) (hbN : b = nI bj) (hw : w = nI wj) (hbk : bj < 6) (hwk : wj < 7) : CT l G yX12_get cX12_get 3 (some .int) 0 [.ref (ad 0), .int b, .int w] (WM G ad σ) (some (.int (nm β bj wj))) (WM G ad σ) := by
  refine x_meth "BetsOnBetsModel" rfl (by decide +kernel) (by rfl) (Nat.le_of_ble_eq_true rfl) ?_
  intro pP eE sS mM args below meth cC A ls hC hr hkL hK hZ hA hH hl
  have hx := hC.1
  have hb := hC.2.1
  have hl : lv_has ls 3 [(0, .ref (ad 0)), (1, .int b), (2, .int w)] := hl
  have hh4 := hR.2.2.1
  have hk6 := hR.2.2.2.1
  have pwh := pw4 hh4
  have pwk := pw6 hk6
  have hbE := hbN
  refine lv_aload_n hx hb dX12_get_0 rfl (lv_at hl 0 rfl) ?_
  refine gf_X12_13 (v := .ref (ad 2)) hC hK hH 0 rfl rfl dX12_get_1 ?_
  refine lv_bipush (v := 10) hx hb dX12_get_4 (by decide) ?_
  refine lv_bipush (v := 7) hx hb dX12_get_6 (by decide) ?_
  refine lv_iload_n hx hb dX12_get_8 rfl (lv_at hl 1 rfl) ?_
  refine lv_imul hx hb dX12_get_9 ?_
  refine lv_iadd hx hb dX12_get_10 ?_
  refine lv_iload_n hx hb dX12_get_11 rfl (lv_at hl 2 rfl) ?_
  refine lv_iadd hx hb dX12_get_12 ?_
  refine x_ialN (f := (σ 2)) hC hK hH 2 (10 + (7 * bj + wj)) rfl (by rw [hbE, hw, nIa, nIa, nIm, Int32.add_assoc]; rfl) (by omega) (Nat.le_of_ble_eq_true rfl) dX12_get_13 ?_
  refine x_topE (y := (nm β bj wj)) (hR.2.2.2.2.2.2 _ (by omega)) ?_
  exact x_iret hC hr hkL hH rfl rfl dX12_get_14
set_option maxHeartbeats 4000000 in
set_option maxRecDepth 100000 in
theorem k_X12_isSo (l : Launch) (G : GP) (ad : Nat → Nat) (σ : Nat → Nat → Int32) (k : Int32) (e : Int32) (w : Int32) : CT l G yX12_isSo cX12_isSo 3 (some .boolean) 0 [.int k, .int e, .int w] (WE G ad σ) (some (.int (bI (soP k e w)))) (WE G ad σ) := by
  refine x_meth "BetsOnBetsModel" rfl (by decide +kernel) (by rfl) (Nat.le_of_ble_eq_true rfl) ?_
  intro pP eE sS mM args below meth cC A ls hC hr hkL hK hZ hA hH hl
  have hx := hC.1
  have hb := hC.2.1
  have hl : lv_has ls 3 [(0, .int k), (1, .int e), (2, .int w)] := hl
  refine lv_iload_n hx hb dX12_isSo_0 rfl (lv_at hl 0 rfl) ?_
  refine lv_bipush (v := 10) hx hb dX12_isSo_1 (by decide) ?_
  refine lv_icmp_ge (tgt := 23) hx hb dX12_isSo_3 (by decide) (fun c3 => ?_) (fun c3 => ?_)
  · refine lv_iload_n hx hb dX12_isSo_23 rfl (lv_at hl 2 rfl) ?_
    refine lv_iload_n hx hb dX12_isSo_24 rfl (lv_at hl 0 rfl) ?_
    refine lv_bipush (v := 10) hx hb dX12_isSo_25 (by decide) ?_
    refine lv_isub hx hb dX12_isSo_27 ?_
    refine lv_ishr hx hb dX12_isSo_28 ?_
    refine lv_iconst (v := 1) hx hb dX12_isSo_29 (by decide) ?_
    refine lv_iand hx hb dX12_isSo_30 ?_
    refine lv_iconst (v := 1) hx hb dX12_isSo_31 (by decide) ?_
    refine lv_icmp_ne (tgt := 39) hx hb dX12_isSo_32 (by decide) (fun c32 => ?_) (fun c32 => ?_)
    · refine lv_iconst (v := 0) hx hb dX12_isSo_39 (by decide) ?_
      exact x_zret hC hr hkL hH nar_bI (bI_f (by first | exact soP_f1 c3 c12 | exact soP_f2 c3 c32)) rfl dX12_isSo_40
    · refine lv_iconst (v := 1) hx hb dX12_isSo_35 (by decide) ?_
      refine lv_goto (tgt := 40) hx hb dX12_isSo_36 (by decide) ?_
      exact x_zret hC hr hkL hH nar_bI (bI_t (by first | exact soP_t1 c3 c12 | exact soP_t2 c3 c32)) rfl dX12_isSo_40
  · refine lv_iload_n hx hb dX12_isSo_6 rfl (lv_at hl 1 rfl) ?_
    refine lv_iload_n hx hb dX12_isSo_7 rfl (lv_at hl 0 rfl) ?_
    refine lv_ishr hx hb dX12_isSo_8 ?_
    refine lv_iconst (v := 1) hx hb dX12_isSo_9 (by decide) ?_
    refine lv_iand hx hb dX12_isSo_10 ?_
    refine lv_iconst (v := 1) hx hb dX12_isSo_11 (by decide) ?_
    refine lv_icmp_ne (tgt := 19) hx hb dX12_isSo_12 (by decide) (fun c12 => ?_) (fun c12 => ?_)
    · refine lv_iconst (v := 0) hx hb dX12_isSo_19 (by decide) ?_
      refine lv_goto (tgt := 40) hx hb dX12_isSo_20 (by decide) ?_
      exact x_zret hC hr hkL hH nar_bI (bI_f (by first | exact soP_f1 c3 c12 | exact soP_f2 c3 c32)) rfl dX12_isSo_40
    · refine lv_iconst (v := 1) hx hb dX12_isSo_15 (by decide) ?_
      refine lv_goto (tgt := 40) hx hb dX12_isSo_16 (by decide) ?_
      exact x_zret hC hr hkL hH nar_bI (bI_t (by first | exact soP_t1 c3 c12 | exact soP_t2 c3 c32)) rfl dX12_isSo_40
set_option maxHeartbeats 4000000 in
set_option maxRecDepth 100000 in
theorem k_X12_isWonBy (l : Launch) (G : GP) (ad : Nat → Nat) (σ : Nat → Nat → Int32) (b : Int32) (e : Int32) (w : Int32) (β : Bk) (bj : Nat) (hR : RB (σ 2) β) (hbN : b = nI bj) (hbk : bj < 6) : CT l G yX12_isWonBy cX12_isWonBy 6 (some .boolean) 1 [.ref (ad 0), .int b, .int e, .int w] (WM G ad σ) (some (.int (bI (wonB β bj e w)))) (WM G ad σ) := by
  refine x_meth "BetsOnBetsModel" rfl (by decide +kernel) (by rfl) (Nat.le_of_ble_eq_true rfl) ?_
  intro pP eE sS mM args below meth cC A ls hC hr hkL hK hZ hA hH hl
  have hx := hC.1
  have hb := hC.2.1
  have hl : lv_has ls 6 [(0, .ref (ad 0)), (1, .int b), (2, .int e), (3, .int w)] := hl
  have hh4 := hR.2.2.1
  have hk6 := hR.2.2.2.1
  have pwh := pw4 hh4
  have pwk := pw6 hk6
  refine lv_aload_n hx hb dX12_isWonBy_0 rfl (lv_at hl 0 rfl) ?_
  refine lv_iload_n hx hb dX12_isWonBy_1 rfl (lv_at hl 1 rfl) ?_
  refine lv_iconst (v := 1) hx hb dX12_isWonBy_2 (by decide) ?_
  refine x_callVA (ws' := WM G ad σ) (As := [.int b, .int 1]) (rest := []) (st' := [.int (nm β bj 1)]) hC hK hZ hA hl.1 hH (k_X12_get l G ad σ b 1 β bj 1 hR hbN rfl hbk (by decide)) lk_X12_96 rfl 0 11 rfl rfl rfl ⟨Nat.le_of_ble_eq_true rfl, Nat.le_of_ble_eq_true rfl⟩ ⟨Nat.le_refl _, Nat.le_refl _⟩ (Nat.le_of_ble_eq_true rfl) rfl dX12_isWonBy_3 (fun H locs hH => ?_)
  refine lv_iload_n hx hb dX12_isWonBy_6 rfl (lv_at hl 2 rfl) ?_
  refine lv_iload_n hx hb dX12_isWonBy_7 rfl (lv_at hl 3 rfl) ?_
  refine x_callS (ws' := WM G ad σ) (As := [.int (nm β bj 1), .int e, .int w]) (rest := []) (st' := [.int (bI (soP (nm β bj 1) e w))]) hC hK hZ hA hl.1 hH (k_X12_isSo l G (pk ad []) (pk σ []) (nm β bj 1) e w) lk_X12_100 [] rfl rfl rfl rfl ⟨Nat.le_of_ble_eq_true rfl, Nat.le_of_ble_eq_true rfl⟩ ⟨Nat.le_refl _, Nat.le_refl _⟩ (Nat.le_of_ble_eq_true rfl) rfl dX12_isWonBy_8 (fun H locs hH => ?_)
  refine lv_istore (lv' := [(4, .int (bI (soP (nm β bj 1) e w))), (0, .ref (ad 0)), (1, .int b), (2, .int e), (3, .int w)]) hx hb dX12_isWonBy_11 hl (by decide) rfl (fun ls hl => ?_)
  refine lv_aload_n hx hb dX12_isWonBy_13 rfl (lv_at hl 1 rfl) ?_
  refine lv_iload_n hx hb dX12_isWonBy_14 rfl (lv_at hl 2 rfl) ?_
  refine lv_iconst (v := 2) hx hb dX12_isWonBy_15 (by decide) ?_
  refine x_callVA (ws' := WM G ad σ) (As := [.int b, .int 2]) (rest := []) (st' := [.int (nm β bj 2)]) hC hK hZ hA hl.1 hH (k_X12_get l G ad σ b 2 β bj 2 hR hbN rfl hbk (by decide)) lk_X12_96 rfl 0 11 rfl rfl rfl ⟨Nat.le_of_ble_eq_true rfl, Nat.le_of_ble_eq_true rfl⟩ ⟨Nat.le_refl _, Nat.le_refl _⟩ (Nat.le_of_ble_eq_true rfl) rfl dX12_isWonBy_16 (fun H locs hH => ?_)
  refine lv_iload_n hx hb dX12_isWonBy_19 rfl (lv_at hl 3 rfl) ?_
  refine lv_iload_n hx hb dX12_isWonBy_20 rfl (lv_at hl 4 rfl) ?_
  refine x_callS (ws' := WM G ad σ) (As := [.int (nm β bj 2), .int e, .int w]) (rest := []) (st' := [.int (bI (soP (nm β bj 2) e w))]) hC hK hZ hA hl.1 hH (k_X12_isSo l G (pk ad []) (pk σ []) (nm β bj 2) e w) lk_X12_100 [] rfl rfl rfl rfl ⟨Nat.le_of_ble_eq_true rfl, Nat.le_of_ble_eq_true rfl⟩ ⟨Nat.le_refl _, Nat.le_refl _⟩ (Nat.le_of_ble_eq_true rfl) rfl dX12_isWonBy_21 (fun H locs hH => ?_)
  refine lv_istore (lv' := [(5, .int (bI (soP (nm β bj 2) e w))), (4, .int (bI (soP (nm β bj 1) e w))), (0, .ref (ad 0)), (1, .int b), (2, .int e), (3, .int w)]) hx hb dX12_isWonBy_24 hl (by decide) rfl (fun ls hl => ?_)
  refine lv_aload_n hx hb dX12_isWonBy_26 rfl (lv_at hl 2 rfl) ?_
  refine lv_iload_n hx hb dX12_isWonBy_27 rfl (lv_at hl 3 rfl) ?_
  refine lv_iconst (v := 0) hx hb dX12_isWonBy_28 (by decide) ?_
  refine x_callVA (ws' := WM G ad σ) (As := [.int b, .int 0]) (rest := []) (st' := [.int (nm β bj 0)]) hC hK hZ hA hl.1 hH (k_X12_get l G ad σ b 0 β bj 0 hR hbN rfl hbk (by decide)) lk_X12_96 rfl 0 11 rfl rfl rfl ⟨Nat.le_of_ble_eq_true rfl, Nat.le_of_ble_eq_true rfl⟩ ⟨Nat.le_refl _, Nat.le_refl _⟩ (Nat.le_of_ble_eq_true rfl) rfl dX12_isWonBy_29 (fun H locs hH => ?_)
  rcases sw5 (nm β bj 0) with h1 | h2 | h3 | h4 | h5 | h6
  · refine x_topE (y := 1) h1 ?_
    refine lv_tableIn (tgt := 68) hx hb dX12_isWonBy_32 (by decide) (by decide) rfl (by decide) ?_
    refine lv_iload hx hb dX12_isWonBy_68 (lv_at hl 1 rfl) ?_
    refine x_bne (tgt := 77) hC dX12_isWonBy_70 (by decide) (fun c70 => ?_) (fun c70 => ?_)
    · refine lv_iconst (v := 0) hx hb dX12_isWonBy_77 (by decide) ?_
      exact x_zret hC hr hkL hH nar_bI (bI_f (by rw [wonB, h1]; simp [wonP]; exact c70)) rfl dX12_isWonBy_78
    · refine lv_iconst (v := 1) hx hb dX12_isWonBy_73 (by decide) ?_
      refine lv_goto (tgt := 78) hx hb dX12_isWonBy_74 (by decide) ?_
      exact x_zret hC hr hkL hH nar_bI (bI_t (by rw [wonB, h1]; simp [wonP]; exact c70)) rfl dX12_isWonBy_78
  · refine x_topE (y := 2) h2 ?_
    refine lv_tableIn (tgt := 79) hx hb dX12_isWonBy_32 (by decide) (by decide) rfl (by decide) ?_
    refine lv_iload hx hb dX12_isWonBy_79 (lv_at hl 1 rfl) ?_
    refine x_beq (tgt := 93) hC dX12_isWonBy_81 (by decide) (fun c81 => ?_) (fun c81 => ?_)
    · refine lv_iconst (v := 0) hx hb dX12_isWonBy_93 (by decide) ?_
      exact x_zret hC hr hkL hH nar_bI (bI_f (by rw [wonB, h2]; simp [wonP]; first | exact fun z => absurd z c81 | exact fun _ => c86)) rfl dX12_isWonBy_94
    · refine lv_iload hx hb dX12_isWonBy_84 (lv_at hl 0 rfl) ?_
      refine x_beq (tgt := 93) hC dX12_isWonBy_86 (by decide) (fun c86 => ?_) (fun c86 => ?_)
      · refine lv_iconst (v := 0) hx hb dX12_isWonBy_93 (by decide) ?_
        exact x_zret hC hr hkL hH nar_bI (bI_f (by rw [wonB, h2]; simp [wonP]; first | exact fun z => absurd z c81 | exact fun _ => c86)) rfl dX12_isWonBy_94
      · refine lv_iconst (v := 1) hx hb dX12_isWonBy_89 (by decide) ?_
        refine lv_goto (tgt := 94) hx hb dX12_isWonBy_90 (by decide) ?_
        exact x_zret hC hr hkL hH nar_bI (bI_t (by rw [wonB, h2]; simp [wonP]; exact ⟨c81, c86⟩)) rfl dX12_isWonBy_94
  · refine x_topE (y := 3) h3 ?_
    refine lv_tableIn (tgt := 95) hx hb dX12_isWonBy_32 (by decide) (by decide) rfl (by decide) ?_
    refine lv_iload hx hb dX12_isWonBy_95 (lv_at hl 1 rfl) ?_
    refine x_bne (tgt := 105) hC dX12_isWonBy_97 (by decide) (fun c97 => ?_) (fun c97 => ?_)
    · refine lv_iconst (v := 1) hx hb dX12_isWonBy_105 (by decide) ?_
      refine lv_goto (tgt := 110) hx hb dX12_isWonBy_106 (by decide) ?_
      exact x_zret hC hr hkL hH nar_bI (bI_t (by rw [wonB, h3]; simp [wonP]; first | exact Or.inl c97 | exact Or.inr c102)) rfl dX12_isWonBy_110
    · refine lv_iload hx hb dX12_isWonBy_100 (lv_at hl 0 rfl) ?_
      refine x_beq (tgt := 109) hC dX12_isWonBy_102 (by decide) (fun c102 => ?_) (fun c102 => ?_)
      · refine lv_iconst (v := 0) hx hb dX12_isWonBy_109 (by decide) ?_
        exact x_zret hC hr hkL hH nar_bI (bI_f (by rw [wonB, h3]; simp [wonP]; exact ⟨c97, c102⟩)) rfl dX12_isWonBy_110
      · refine lv_iconst (v := 1) hx hb dX12_isWonBy_105 (by decide) ?_
        refine lv_goto (tgt := 110) hx hb dX12_isWonBy_106 (by decide) ?_
        exact x_zret hC hr hkL hH nar_bI (bI_t (by rw [wonB, h3]; simp [wonP]; first | exact Or.inl c97 | exact Or.inr c102)) rfl dX12_isWonBy_110
  · refine x_topE (y := 4) h4 ?_
    refine lv_tableIn (tgt := 111) hx hb dX12_isWonBy_32 (by decide) (by decide) rfl (by decide) ?_
    refine lv_iload hx hb dX12_isWonBy_111 (lv_at hl 1 rfl) ?_
    refine lv_iload hx hb dX12_isWonBy_113 (lv_at hl 0 rfl) ?_
    refine lv_icmp_eq (tgt := 122) hx hb dX12_isWonBy_115 (by decide) (fun c115 => ?_) (fun c115 => ?_)
    · refine lv_iconst (v := 0) hx hb dX12_isWonBy_122 (by decide) ?_
      exact x_zret hC hr hkL hH nar_bI (bI_f (by rw [wonB, h4]; simp [wonP]; exact bI_inj.mp c115)) rfl dX12_isWonBy_123
    · refine lv_iconst (v := 1) hx hb dX12_isWonBy_118 (by decide) ?_
      refine lv_goto (tgt := 123) hx hb dX12_isWonBy_119 (by decide) ?_
      exact x_zret hC hr hkL hH nar_bI (bI_t (by rw [wonB, h4]; simp [wonP]; exact fun z => c115 (bI_inj.mpr z))) rfl dX12_isWonBy_123
  · refine x_topE (y := 5) h5 ?_
    refine lv_tableIn (tgt := 124) hx hb dX12_isWonBy_32 (by decide) (by decide) rfl (by decide) ?_
    refine lv_iload hx hb dX12_isWonBy_124 (lv_at hl 1 rfl) ?_
    refine x_bne (tgt := 138) hC dX12_isWonBy_126 (by decide) (fun c126 => ?_) (fun c126 => ?_)
    · refine lv_iconst (v := 0) hx hb dX12_isWonBy_138 (by decide) ?_
      exact x_zret hC hr hkL hH nar_bI (bI_f (by rw [wonB, h5]; simp [wonP]; first | exact fun z => absurd c126 z | exact fun _ => c131)) rfl dX12_isWonBy_139
    · refine lv_iload hx hb dX12_isWonBy_129 (lv_at hl 0 rfl) ?_
      refine x_bne (tgt := 138) hC dX12_isWonBy_131 (by decide) (fun c131 => ?_) (fun c131 => ?_)
      · refine lv_iconst (v := 0) hx hb dX12_isWonBy_138 (by decide) ?_
        exact x_zret hC hr hkL hH nar_bI (bI_f (by rw [wonB, h5]; simp [wonP]; first | exact fun z => absurd c126 z | exact fun _ => c131)) rfl dX12_isWonBy_139
      · refine lv_iconst (v := 1) hx hb dX12_isWonBy_134 (by decide) ?_
        refine lv_goto (tgt := 139) hx hb dX12_isWonBy_135 (by decide) ?_
        exact x_zret hC hr hkL hH nar_bI (bI_t (by rw [wonB, h5]; simp [wonP]; exact ⟨c126, c131⟩)) rfl dX12_isWonBy_139
  · refine lv_tableOut (tgt := 140) hx hb dX12_isWonBy_32 h6 (by decide) ?_
    refine lv_iload hx hb dX12_isWonBy_140 (lv_at hl 1 rfl) ?_
    exact x_zret hC hr hkL hH nar_bI (bI_e (by exact (wonP_d h6))) rfl dX12_isWonBy_142
set_option maxHeartbeats 4000000 in
set_option maxRecDepth 100000 in
theorem k_X12_isWay (l : Launch) (G : GP) (ad : Nat → Nat) (σ : Nat → Nat → Int32) (e : Int32) (w : Int32) (β : Bk) (hR : RB (σ 2) β) : CT l G yX12_isWay cX12_isWay 4 (some .boolean) 2 [.ref (ad 0), .int e, .int w] (WM G ad σ) (some (.int (bI (isWayP β e w)))) (WM G ad σ) := by
  refine x_meth "BetsOnBetsModel" rfl (by decide +kernel) (by rfl) (Nat.le_of_ble_eq_true rfl) ?_
  intro pP eE sS mM args below meth cC A ls hC hr hkL hK hZ hA hH hl
  have hx := hC.1
  have hb := hC.2.1
  have hl : lv_has ls 4 [(0, .ref (ad 0)), (1, .int e), (2, .int w)] := hl
  have hh4 := hR.2.2.1
  have hk6 := hR.2.2.2.1
  have pwh := pw4 hh4
  have pwk := pw6 hk6
  refine lv_iconst (v := 0) hx hb dX12_isWay_0 (by decide) ?_
  refine lv_istore_n (lv' := [(3, .int 0), (0, .ref (ad 0)), (1, .int e), (2, .int w)]) hx hb dX12_isWay_1 rfl hl (by decide) rfl (fun ls hl => ?_)
  refine x_loop (G := G) (A := A) (H0 := sS.heap) (nL := 4) (α := Nat) (fun q_ => (bK β) - q_) (fun q_ => q_ ≤ bK β ∧ ∀ i, i < q_ → (wonB β i e w ↔ tb w (nI i))) (fun q_ => WM G ad σ) (fun q_ => [(0, .ref (ad 0)), (1, .int e), (2, .int w), (3, .int (nI q_))]) ?_ 0 (show 0 ≤ bK β ∧ ∀ i, i < 0 → (wonB β i e w ↔ tb w (nI i)) from ⟨by omega, fun i h => absurd h (by omega)⟩) ?_ ?_
  · rintro j hi_j ih_j H locs ls hH hl
    replace hi_j : j ≤ bK β ∧ ∀ i, i < j → (wonB β i e w ↔ tb w (nI i)) := hi_j
    replace hH : Hx G A (WM G ad σ) sS.heap H locs := hH
    replace hl : lv_has ls 4 [(0, .ref (ad 0)), (1, .int e), (2, .int w), (3, .int (nI j))] := hl
    have hi_j1 := hi_j.1
    refine lv_iload_n hx hb dX12_isWay_2 rfl (lv_at hl 3 rfl) ?_
    refine lv_aload_n hx hb dX12_isWay_3 rfl (lv_at hl 0 rfl) ?_
    refine gf_X12_13 (v := .ref (ad 2)) hC hK hH 0 rfl rfl dX12_isWay_4 ?_
    refine lv_iconst (v := 1) hx hb dX12_isWay_7 (by decide) ?_
    refine x_ialN (f := (σ 2)) hC hK hH 2 1 rfl rfl (by decide) (Nat.le_of_ble_eq_true rfl) dX12_isWay_8 ?_
    refine lv_icmp_ge (tgt := 44) hx hb dX12_isWay_9 (by decide) (fun c9 => ?_) (fun c9 => ?_)
    · have ge_j := lp_out (n := bK β) hR.2.1 (by omega) (by omega) c9
      have eq_j : j = bK β := by omega
      refine lv_iconst (v := 1) hx hb dX12_isWay_44 (by decide) ?_
      exact x_zret hC hr hkL hH nar_bI (bI_t (by intro i hi; exact hi_j.2 i (by omega))) rfl dX12_isWay_45
    · have lt_j := lp_in (n := bK β) hR.2.1 (by omega) (by omega) c9
      refine lv_aload_n hx hb dX12_isWay_12 rfl (lv_at hl 0 rfl) ?_
      refine lv_iload_n hx hb dX12_isWay_13 rfl (lv_at hl 3 rfl) ?_
      refine lv_iload_n hx hb dX12_isWay_14 rfl (lv_at hl 1 rfl) ?_
      refine lv_iload_n hx hb dX12_isWay_15 rfl (lv_at hl 2 rfl) ?_
      refine x_callVA (ws' := WM G ad σ) (As := [.int (nI j), .int e, .int w]) (rest := []) (st' := [.int (bI (wonB β j e w))]) hC hK hZ hA hl.1 hH (k_X12_isWonBy l G ad σ (nI j) e w β j hR rfl (by omega)) lk_X12_104 rfl 0 11 rfl rfl rfl ⟨Nat.le_of_ble_eq_true rfl, Nat.le_of_ble_eq_true rfl⟩ ⟨Nat.le_refl _, Nat.le_refl _⟩ (Nat.le_of_ble_eq_true rfl) rfl dX12_isWay_16 (fun H locs hH => ?_)
      refine lv_iload_n hx hb dX12_isWay_19 rfl (lv_at hl 2 rfl) ?_
      refine lv_iload_n hx hb dX12_isWay_20 rfl (lv_at hl 3 rfl) ?_
      refine lv_ishr hx hb dX12_isWay_21 ?_
      refine lv_iconst (v := 1) hx hb dX12_isWay_22 (by decide) ?_
      refine lv_iand hx hb dX12_isWay_23 ?_
      refine lv_iconst (v := 1) hx hb dX12_isWay_24 (by decide) ?_
      refine lv_icmp_ne (tgt := 32) hx hb dX12_isWay_25 (by decide) (fun c25 => ?_) (fun c25 => ?_)
      · refine lv_iconst (v := 0) hx hb dX12_isWay_32 (by decide) ?_
        refine lv_icmp_eq (tgt := 38) hx hb dX12_isWay_33 (by decide) (fun c33 => ?_) (fun c33 => ?_)
        · refine lv_iinc (v := ((nI j) + 1)) (lv' := [(3, .int ((nI j) + 1)), (0, .ref (ad 0)), (1, .int e), (2, .int w)]) hx hb dX12_isWay_38 hl (k := 3) rfl rfl (by decide) rfl (fun ls hl => ?_)
          refine lv_goto (tgt := 2) hx hb dX12_isWay_41 (by decide) ?_
          exact ih_j (j + 1) (show (j + 1) ≤ bK β ∧ ∀ i, i < (j + 1) → (wonB β i e w ↔ tb w (nI i)) from ⟨by omega, lt_s hi_j.2 (by first | exact ⟨fun _ => c25, fun _ => bI_1.mp c33⟩ | exact ⟨fun z => absurd z (bI_z.mp c33), fun z => absurd z c25⟩)⟩) (show (bK β) - (j + 1) < (bK β) - j from (by omega)) _ _ _ (hH.eq rfl) (lv_eq (lv_sub hl [1, 2, 3, 0] rfl) (lc_s (lc_s (lc_s (lc_i (by first | rfl | exact nI_1 _ | simp : ((nI j) + 1) = (nI (j + 1))) rfl)))))
        · refine lv_iconst (v := 0) hx hb dX12_isWay_36 (by decide) ?_
          exact x_zret hC hr hkL hH nar_bI (bI_f (by exact fun z => absurd (z j lt_j) (by first | exact fun q => c33 (bI_t (q.mpr c25)) | exact fun q => c33 (bI_f (fun y => c25 (q.mp y)))))) rfl dX12_isWay_37
      · refine lv_iconst (v := 1) hx hb dX12_isWay_28 (by decide) ?_
        refine lv_goto (tgt := 33) hx hb dX12_isWay_29 (by decide) ?_
        refine lv_icmp_eq (tgt := 38) hx hb dX12_isWay_33 (by decide) (fun c33 => ?_) (fun c33 => ?_)
        · refine lv_iinc (v := ((nI j) + 1)) (lv' := [(3, .int ((nI j) + 1)), (0, .ref (ad 0)), (1, .int e), (2, .int w)]) hx hb dX12_isWay_38 hl (k := 3) rfl rfl (by decide) rfl (fun ls hl => ?_)
          refine lv_goto (tgt := 2) hx hb dX12_isWay_41 (by decide) ?_
          exact ih_j (j + 1) (show (j + 1) ≤ bK β ∧ ∀ i, i < (j + 1) → (wonB β i e w ↔ tb w (nI i)) from ⟨by omega, lt_s hi_j.2 (by first | exact ⟨fun _ => c25, fun _ => bI_1.mp c33⟩ | exact ⟨fun z => absurd z (bI_z.mp c33), fun z => absurd z c25⟩)⟩) (show (bK β) - (j + 1) < (bK β) - j from (by omega)) _ _ _ (hH.eq rfl) (lv_eq (lv_sub hl [1, 2, 3, 0] rfl) (lc_s (lc_s (lc_s (lc_i (by first | rfl | exact nI_1 _ | simp : ((nI j) + 1) = (nI (j + 1))) rfl)))))
        · refine lv_iconst (v := 0) hx hb dX12_isWay_36 (by decide) ?_
          exact x_zret hC hr hkL hH nar_bI (bI_f (by exact fun z => absurd (z j lt_j) (by first | exact fun q => c33 (bI_t (q.mpr c25)) | exact fun q => c33 (bI_f (fun y => c25 (q.mp y)))))) rfl dX12_isWay_37
  · exact hH.eq rfl
  · exact lv_eq (lv_sub hl [1, 2, 3, 0] rfl) (lc_s (lc_s (lc_s (lc_i (by rfl : 0 = (nI 0)) rfl))))
set_option maxHeartbeats 4000000 in
set_option maxRecDepth 100000 in
theorem k_X12_findsWays (l : Launch) (G : GP) (ad : Nat → Nat) (σ : Nat → Nat → Int32) (e : Int32) (β : Bk) (hR : RB (σ 2) β) : CT l G yX12_findsWays cX12_findsWays 3 none 3 [.ref (ad 0), .int e] (WM G ad σ) none (WM G ad (ua σ 0 (upd (upd (upd (upd (σ 0) 9 ((fwA β e).1)) 10 ((fwA β e).2.1)) 11 ((fwA β e).2.2.1)) 12 ((fwA β e).2.2.2)))) := by
  refine x_meth "BetsOnBetsModel" rfl (by decide +kernel) (by rfl) (Nat.le_of_ble_eq_true rfl) ?_
  intro pP eE sS mM args below meth cC A ls hC hr hkL hK hZ hA hH hl
  have hx := hC.1
  have hb := hC.2.1
  have hl : lv_has ls 3 [(0, .ref (ad 0)), (1, .int e)] := hl
  have hh4 := hR.2.2.1
  have hk6 := hR.2.2.2.1
  have pwh := pw4 hh4
  have pwk := pw6 hk6
  refine lv_aload_n hx hb dX12_findsWays_0 rfl (lv_at hl 0 rfl) ?_
  refine lv_iconst (v := 0) hx hb dX12_findsWays_1 (by decide) ?_
  refine pf_X12_107 (ws' := WM G ad (ua σ 0 (upd (σ 0) 9 0))) hC hK hH 0 rfl rfl rfl (Nat.le_of_ble_eq_true rfl) dX12_findsWays_2 rfl (fun H locs hH => ?_)
  refine lv_aload_n hx hb dX12_findsWays_5 rfl (lv_at hl 0 rfl) ?_
  refine lv_bipush (v := (-9)) hx hb dX12_findsWays_6 (by decide) ?_
  refine pf_X12_110 (ws' := WM G ad (ua σ 0 (upd (upd (σ 0) 9 0) 10 (-9)))) hC hK hH 0 rfl rfl rfl (Nat.le_of_ble_eq_true rfl) dX12_findsWays_8 rfl (fun H locs hH => ?_)
  refine lv_aload_n hx hb dX12_findsWays_11 rfl (lv_at hl 0 rfl) ?_
  refine lv_iconst (v := 0) hx hb dX12_findsWays_12 (by decide) ?_
  refine pf_X12_113 (ws' := WM G ad (ua σ 0 (upd (upd (upd (σ 0) 9 0) 10 (-9)) 11 0))) hC hK hH 0 rfl rfl rfl (Nat.le_of_ble_eq_true rfl) dX12_findsWays_13 rfl (fun H locs hH => ?_)
  refine lv_aload_n hx hb dX12_findsWays_16 rfl (lv_at hl 0 rfl) ?_
  refine lv_iconst (v := 1) hx hb dX12_findsWays_17 (by decide) ?_
  refine lv_aload_n hx hb dX12_findsWays_18 rfl (lv_at hl 0 rfl) ?_
  refine gf_X12_13 (v := .ref (ad 2)) hC hK hH 0 rfl rfl dX12_findsWays_19 ?_
  refine lv_iconst (v := 1) hx hb dX12_findsWays_22 (by decide) ?_
  refine x_ialN (f := (σ 2)) hC hK hH 2 1 rfl rfl (by decide) (Nat.le_of_ble_eq_true rfl) dX12_findsWays_23 ?_
  refine lv_ishl hx hb dX12_findsWays_24 ?_
  refine x_topE (y := (nI (2 ^ bK β))) hR.p1 ?_
  refine lv_iconst (v := 1) hx hb dX12_findsWays_25 (by decide) ?_
  refine lv_isub hx hb dX12_findsWays_26 ?_
  refine pf_X12_116 (ws' := WM G ad (ua σ 0 (upd (upd (upd (upd (σ 0) 9 0) 10 (-9)) 11 0) 12 ((nI (2 ^ bK β)) - 1)))) hC hK hH 0 rfl rfl rfl (Nat.le_of_ble_eq_true rfl) dX12_findsWays_27 rfl (fun H locs hH => ?_)
  refine lv_iconst (v := 0) hx hb dX12_findsWays_30 (by decide) ?_
  refine lv_istore_n (lv' := [(2, .int 0), (0, .ref (ad 0)), (1, .int e)]) hx hb dX12_findsWays_31 rfl hl (by decide) rfl (fun ls hl => ?_)
  refine x_loop (G := G) (A := A) (H0 := sS.heap) (nL := 3) (α := Nat) (fun q_ => (2 ^ bK β) - q_) (fun q_ => q_ ≤ (2 ^ bK β)) (fun q_ => WM G ad (ua σ 0 (upd (upd (upd (upd (σ 0) 9 ((fw β e q_).1)) 10 ((fw β e q_).2.1)) 11 ((fw β e q_).2.2.1)) 12 ((fw β e q_).2.2.2)))) (fun q_ => [(0, .ref (ad 0)), (1, .int e), (2, .int (nI q_))]) ?_ 0 (show 0 ≤ (2 ^ bK β) from (Nat.zero_le _)) ?_ ?_
  · rintro w hi_w ih_w H locs ls hH hl
    replace hi_w : w ≤ (2 ^ bK β) := hi_w
    replace hH : Hx G A (WM G ad (ua σ 0 (upd (upd (upd (upd (σ 0) 9 ((fw β e w).1)) 10 ((fw β e w).2.1)) 11 ((fw β e w).2.2.1)) 12 ((fw β e w).2.2.2)))) sS.heap H locs := hH
    replace hl : lv_has ls 3 [(0, .ref (ad 0)), (1, .int e), (2, .int (nI w))] := hl
    refine lv_iload_n hx hb dX12_findsWays_32 rfl (lv_at hl 2 rfl) ?_
    refine lv_iconst (v := 1) hx hb dX12_findsWays_33 (by decide) ?_
    refine lv_aload_n hx hb dX12_findsWays_34 rfl (lv_at hl 0 rfl) ?_
    refine gf_X12_13 (v := .ref (ad 2)) hC hK hH 0 rfl rfl dX12_findsWays_35 ?_
    refine lv_iconst (v := 1) hx hb dX12_findsWays_38 (by decide) ?_
    refine x_ialN (f := (σ 2)) hC hK hH 2 1 rfl rfl (by decide) (Nat.le_of_ble_eq_true rfl) dX12_findsWays_39 ?_
    refine lv_ishl hx hb dX12_findsWays_40 ?_
    refine x_topE (y := (nI (2 ^ bK β))) hR.p1 ?_
    refine lv_icmp_ge (tgt := 111) hx hb dX12_findsWays_41 (by decide) (fun c41 => ?_) (fun c41 => ?_)
    · have ge_w := lp_out (n := 2 ^ bK β) rfl (by omega) (by omega) c41
      have eq_w : w = 2 ^ bK β := by omega
      exact x_vret hC hr hkL hH (congrArg (fun z_ : Nat → Int32 => WM G ad (ua σ 0 z_)) (by rw [eq_w]; rfl : (upd (upd (upd (upd (σ 0) 9 ((fwA β e).1)) 10 ((fwA β e).2.1)) 11 ((fwA β e).2.2.1)) 12 ((fwA β e).2.2.2)) = (upd (upd (upd (upd (σ 0) 9 ((fw β e w).1)) 10 ((fw β e w).2.1)) 11 ((fw β e w).2.2.1)) 12 ((fw β e w).2.2.2)))) dX12_findsWays_111
    · have lt_w := lp_in (n := 2 ^ bK β) rfl (by omega) (by omega) c41
      refine lv_aload_n hx hb dX12_findsWays_44 rfl (lv_at hl 0 rfl) ?_
      refine lv_iload_n hx hb dX12_findsWays_45 rfl (lv_at hl 1 rfl) ?_
      refine lv_iload_n hx hb dX12_findsWays_46 rfl (lv_at hl 2 rfl) ?_
      refine x_callVA (ws' := WM G ad (ua σ 0 (upd (upd (upd (upd (σ 0) 9 ((fw β e w).1)) 10 ((fw β e w).2.1)) 11 ((fw β e w).2.2.1)) 12 ((fw β e w).2.2.2)))) (As := [.int e, .int (nI w)]) (rest := []) (st' := [.int (bI (isWayP β e (nI w)))]) hC hK hZ hA hl.1 hH (k_X12_isWay l G ad (ua σ 0 (upd (upd (upd (upd (σ 0) 9 ((fw β e w).1)) 10 ((fw β e w).2.1)) 11 ((fw β e w).2.2.1)) 12 ((fw β e w).2.2.2))) e (nI w) β hR) lk_X12_119 rfl 0 11 rfl rfl rfl ⟨Nat.le_of_ble_eq_true rfl, Nat.le_of_ble_eq_true rfl⟩ ⟨Nat.le_refl _, Nat.le_refl _⟩ (Nat.le_of_ble_eq_true rfl) rfl dX12_findsWays_47 (fun H locs hH => ?_)
      refine x_bne (tgt := 56) hC dX12_findsWays_50 (by decide) (fun c50 => ?_) (fun c50 => ?_)
      · refine lv_aload_n hx hb dX12_findsWays_56 rfl (lv_at hl 0 rfl) ?_
        refine lv_dup hx hb dX12_findsWays_57 rfl ?_
        refine gf_X12_107 (v := .int ((fw β e w).1)) hC hK hH 0 rfl rfl dX12_findsWays_58 ?_
        refine lv_iconst (v := 1) hx hb dX12_findsWays_61 (by decide) ?_
        refine lv_iadd hx hb dX12_findsWays_62 ?_
        refine pf_X12_107 (ws' := WM G ad (ua σ 0 (upd (upd (upd (upd (σ 0) 9 (((fw β e w).1) + 1)) 10 ((fw β e w).2.1)) 11 ((fw β e w).2.2.1)) 12 ((fw β e w).2.2.2)))) hC hK hH 0 rfl rfl rfl (Nat.le_of_ble_eq_true rfl) dX12_findsWays_63 rfl (fun H locs hH => ?_)
        refine lv_aload_n hx hb dX12_findsWays_66 rfl (lv_at hl 0 rfl) ?_
        refine lv_aload_n hx hb dX12_findsWays_67 rfl (lv_at hl 0 rfl) ?_
        refine gf_X12_110 (v := .int ((fw β e w).2.1)) hC hK hH 0 rfl rfl dX12_findsWays_68 ?_
        refine lv_if_ge (tgt := 78) hx hb dX12_findsWays_71 (by decide) (fun c71 => ?_) (fun c71 => ?_)
        · refine lv_aload_n hx hb dX12_findsWays_78 rfl (lv_at hl 0 rfl) ?_
          refine gf_X12_110 (v := .int ((fw β e w).2.1)) hC hK hH 0 rfl rfl dX12_findsWays_79 ?_
          refine pf_X12_110 (ws' := WM G ad (ua σ 0 (upd (upd (upd (upd (σ 0) 9 (((fw β e w).1) + 1)) 10 ((fw β e w).2.1)) 11 ((fw β e w).2.2.1)) 12 ((fw β e w).2.2.2)))) hC hK hH 0 rfl rfl rfl (Nat.le_of_ble_eq_true rfl) dX12_findsWays_82 rfl (fun H locs hH => ?_)
          refine lv_aload_n hx hb dX12_findsWays_85 rfl (lv_at hl 0 rfl) ?_
          refine lv_dup hx hb dX12_findsWays_86 rfl ?_
          refine gf_X12_113 (v := .int ((fw β e w).2.2.1)) hC hK hH 0 rfl rfl dX12_findsWays_87 ?_
          refine lv_iload_n hx hb dX12_findsWays_90 rfl (lv_at hl 2 rfl) ?_
          refine lv_ior hx hb dX12_findsWays_91 ?_
          refine pf_X12_113 (ws' := WM G ad (ua σ 0 (upd (upd (upd (upd (σ 0) 9 (((fw β e w).1) + 1)) 10 ((fw β e w).2.1)) 11 (((fw β e w).2.2.1) ||| (nI w))) 12 ((fw β e w).2.2.2)))) hC hK hH 0 rfl rfl rfl (Nat.le_of_ble_eq_true rfl) dX12_findsWays_92 rfl (fun H locs hH => ?_)
          refine lv_aload_n hx hb dX12_findsWays_95 rfl (lv_at hl 0 rfl) ?_
          refine lv_dup hx hb dX12_findsWays_96 rfl ?_
          refine gf_X12_116 (v := .int ((fw β e w).2.2.2)) hC hK hH 0 rfl rfl dX12_findsWays_97 ?_
          refine lv_iload_n hx hb dX12_findsWays_100 rfl (lv_at hl 2 rfl) ?_
          refine lv_iand hx hb dX12_findsWays_101 ?_
          refine pf_X12_116 (ws' := WM G ad (ua σ 0 (upd (upd (upd (upd (σ 0) 9 (((fw β e w).1) + 1)) 10 ((fw β e w).2.1)) 11 (((fw β e w).2.2.1) ||| (nI w))) 12 (((fw β e w).2.2.2) &&& (nI w))))) hC hK hH 0 rfl rfl rfl (Nat.le_of_ble_eq_true rfl) dX12_findsWays_102 rfl (fun H locs hH => ?_)
          refine lv_iinc (v := ((nI w) + 1)) (lv' := [(2, .int ((nI w) + 1)), (0, .ref (ad 0)), (1, .int e)]) hx hb dX12_findsWays_105 hl (k := 2) rfl rfl (by decide) rfl (fun ls hl => ?_)
          refine lv_goto (tgt := 32) hx hb dX12_findsWays_108 (by decide) ?_
          exact ih_w (w + 1) (show (w + 1) ≤ (2 ^ bK β) from (by omega)) (show (2 ^ bK β) - (w + 1) < (2 ^ bK β) - w from (by omega)) _ _ _ (hH.eq (congrArg (fun z_ : Nat → Int32 => WM G ad (ua σ 0 z_)) (by first | (rw [fw_f c50]; done) | (rw [fw_t c50, if_pos c71]; done) | (rw [fw_t c50, if_neg c71]; done) : (upd (upd (upd (upd (σ 0) 9 (((fw β e w).1) + 1)) 10 ((fw β e w).2.1)) 11 (((fw β e w).2.2.1) ||| (nI w))) 12 (((fw β e w).2.2.2) &&& (nI w))) = (upd (upd (upd (upd (σ 0) 9 ((fw β e (w + 1)).1)) 10 ((fw β e (w + 1)).2.1)) 11 ((fw β e (w + 1)).2.2.1)) 12 ((fw β e (w + 1)).2.2.2))))) (lv_eq (lv_sub hl [1, 2, 0] rfl) (lc_s (lc_s (lc_i (by first | rfl | exact nI_1 _ | simp : ((nI w) + 1) = (nI (w + 1))) rfl))))
        · refine lv_iload_n hx hb dX12_findsWays_74 rfl (lv_at hl 2 rfl) ?_
          refine lv_goto (tgt := 82) hx hb dX12_findsWays_75 (by decide) ?_
          refine pf_X12_110 (ws' := WM G ad (ua σ 0 (upd (upd (upd (upd (σ 0) 9 (((fw β e w).1) + 1)) 10 (nI w)) 11 ((fw β e w).2.2.1)) 12 ((fw β e w).2.2.2)))) hC hK hH 0 rfl rfl rfl (Nat.le_of_ble_eq_true rfl) dX12_findsWays_82 rfl (fun H locs hH => ?_)
          refine lv_aload_n hx hb dX12_findsWays_85 rfl (lv_at hl 0 rfl) ?_
          refine lv_dup hx hb dX12_findsWays_86 rfl ?_
          refine gf_X12_113 (v := .int ((fw β e w).2.2.1)) hC hK hH 0 rfl rfl dX12_findsWays_87 ?_
          refine lv_iload_n hx hb dX12_findsWays_90 rfl (lv_at hl 2 rfl) ?_
          refine lv_ior hx hb dX12_findsWays_91 ?_
          refine pf_X12_113 (ws' := WM G ad (ua σ 0 (upd (upd (upd (upd (σ 0) 9 (((fw β e w).1) + 1)) 10 (nI w)) 11 (((fw β e w).2.2.1) ||| (nI w))) 12 ((fw β e w).2.2.2)))) hC hK hH 0 rfl rfl rfl (Nat.le_of_ble_eq_true rfl) dX12_findsWays_92 rfl (fun H locs hH => ?_)
          refine lv_aload_n hx hb dX12_findsWays_95 rfl (lv_at hl 0 rfl) ?_
          refine lv_dup hx hb dX12_findsWays_96 rfl ?_
          refine gf_X12_116 (v := .int ((fw β e w).2.2.2)) hC hK hH 0 rfl rfl dX12_findsWays_97 ?_
          refine lv_iload_n hx hb dX12_findsWays_100 rfl (lv_at hl 2 rfl) ?_
          refine lv_iand hx hb dX12_findsWays_101 ?_
          refine pf_X12_116 (ws' := WM G ad (ua σ 0 (upd (upd (upd (upd (σ 0) 9 (((fw β e w).1) + 1)) 10 (nI w)) 11 (((fw β e w).2.2.1) ||| (nI w))) 12 (((fw β e w).2.2.2) &&& (nI w))))) hC hK hH 0 rfl rfl rfl (Nat.le_of_ble_eq_true rfl) dX12_findsWays_102 rfl (fun H locs hH => ?_)
          refine lv_iinc (v := ((nI w) + 1)) (lv' := [(2, .int ((nI w) + 1)), (0, .ref (ad 0)), (1, .int e)]) hx hb dX12_findsWays_105 hl (k := 2) rfl rfl (by decide) rfl (fun ls hl => ?_)
          refine lv_goto (tgt := 32) hx hb dX12_findsWays_108 (by decide) ?_
          exact ih_w (w + 1) (show (w + 1) ≤ (2 ^ bK β) from (by omega)) (show (2 ^ bK β) - (w + 1) < (2 ^ bK β) - w from (by omega)) _ _ _ (hH.eq (congrArg (fun z_ : Nat → Int32 => WM G ad (ua σ 0 z_)) (by first | (rw [fw_f c50]; done) | (rw [fw_t c50, if_pos c71]; done) | (rw [fw_t c50, if_neg c71]; done) : (upd (upd (upd (upd (σ 0) 9 (((fw β e w).1) + 1)) 10 (nI w)) 11 (((fw β e w).2.2.1) ||| (nI w))) 12 (((fw β e w).2.2.2) &&& (nI w))) = (upd (upd (upd (upd (σ 0) 9 ((fw β e (w + 1)).1)) 10 ((fw β e (w + 1)).2.1)) 11 ((fw β e (w + 1)).2.2.1)) 12 ((fw β e (w + 1)).2.2.2))))) (lv_eq (lv_sub hl [1, 2, 0] rfl) (lc_s (lc_s (lc_i (by first | rfl | exact nI_1 _ | simp : ((nI w) + 1) = (nI (w + 1))) rfl))))
      · refine lv_goto (tgt := 105) hx hb dX12_findsWays_53 (by decide) ?_
        refine lv_iinc (v := ((nI w) + 1)) (lv' := [(2, .int ((nI w) + 1)), (0, .ref (ad 0)), (1, .int e)]) hx hb dX12_findsWays_105 hl (k := 2) rfl rfl (by decide) rfl (fun ls hl => ?_)
        refine lv_goto (tgt := 32) hx hb dX12_findsWays_108 (by decide) ?_
        exact ih_w (w + 1) (show (w + 1) ≤ (2 ^ bK β) from (by omega)) (show (2 ^ bK β) - (w + 1) < (2 ^ bK β) - w from (by omega)) _ _ _ (hH.eq (congrArg (fun z_ : Nat → Int32 => WM G ad (ua σ 0 z_)) (by first | (rw [fw_f c50]; done) | (rw [fw_t c50, if_pos c71]; done) | (rw [fw_t c50, if_neg c71]; done) : (upd (upd (upd (upd (σ 0) 9 ((fw β e w).1)) 10 ((fw β e w).2.1)) 11 ((fw β e w).2.2.1)) 12 ((fw β e w).2.2.2)) = (upd (upd (upd (upd (σ 0) 9 ((fw β e (w + 1)).1)) 10 ((fw β e (w + 1)).2.1)) 11 ((fw β e (w + 1)).2.2.1)) 12 ((fw β e (w + 1)).2.2.2))))) (lv_eq (lv_sub hl [1, 2, 0] rfl) (lc_s (lc_s (lc_i (by first | rfl | exact nI_1 _ | simp : ((nI w) + 1) = (nI (w + 1))) rfl))))
  · exact hH.eq (congrArg (fun z_ : Nat → Int32 => WM G ad (ua σ 0 z_)) (by rfl : (upd (upd (upd (upd (σ 0) 9 0) 10 (-9)) 11 0) 12 ((nI (2 ^ bK β)) - 1)) = (upd (upd (upd (upd (σ 0) 9 ((fw β e 0).1)) 10 ((fw β e 0).2.1)) 11 ((fw β e 0).2.2.1)) 12 ((fw β e 0).2.2.2))))
  · exact lv_eq (lv_sub hl [1, 2, 0] rfl) (lc_s (lc_s (lc_i (by rfl : 0 = (nI 0)) rfl)))
set_option maxHeartbeats 4000000 in
set_option maxRecDepth 100000 in
theorem k_X12_standingOf (l : Launch) (G : GP) (ad : Nat → Nat) (σ : Nat → Nat → Int32) (b : Int32) : CT l G yX12_standingOf cX12_standingOf 2 (some .int) 0 [.ref (ad 0), .int b] (WM G ad σ) (some (.int (standF (σ 0 9) (σ 0 12) (σ 0 11) b))) (WM G ad σ) := by
  refine x_meth "BetsOnBetsModel" rfl (by decide +kernel) (by rfl) (Nat.le_of_ble_eq_true rfl) ?_
  intro pP eE sS mM args below meth cC A ls hC hr hkL hK hZ hA hH hl
  have hx := hC.1
  have hb := hC.2.1
  have hl : lv_has ls 2 [(0, .ref (ad 0)), (1, .int b)] := hl
  refine lv_aload_n hx hb dX12_standingOf_0 rfl (lv_at hl 0 rfl) ?_
  refine gf_X12_107 (v := .int (σ 0 9)) hC hK hH 0 rfl rfl dX12_standingOf_1 ?_
  refine lv_if_ne (tgt := 11) hx hb dX12_standingOf_4 (by decide) (fun c4 => ?_) (fun c4 => ?_)
  · refine lv_aload_n hx hb dX12_standingOf_11 rfl (lv_at hl 0 rfl) ?_
    refine gf_X12_116 (v := .int (σ 0 12)) hC hK hH 0 rfl rfl dX12_standingOf_12 ?_
    refine lv_iload_n hx hb dX12_standingOf_15 rfl (lv_at hl 1 rfl) ?_
    refine lv_ishr hx hb dX12_standingOf_16 ?_
    refine lv_iconst (v := 1) hx hb dX12_standingOf_17 (by decide) ?_
    refine lv_iand hx hb dX12_standingOf_18 ?_
    refine lv_iconst (v := 1) hx hb dX12_standingOf_19 (by decide) ?_
    refine lv_icmp_ne (tgt := 27) hx hb dX12_standingOf_20 (by decide) (fun c20 => ?_) (fun c20 => ?_)
    · refine lv_aload_n hx hb dX12_standingOf_27 rfl (lv_at hl 0 rfl) ?_
      refine gf_X12_113 (v := .int (σ 0 11)) hC hK hH 0 rfl rfl dX12_standingOf_28 ?_
      refine lv_iload_n hx hb dX12_standingOf_31 rfl (lv_at hl 1 rfl) ?_
      refine lv_ishr hx hb dX12_standingOf_32 ?_
      refine lv_iconst (v := 1) hx hb dX12_standingOf_33 (by decide) ?_
      refine lv_iand hx hb dX12_standingOf_34 ?_
      refine lv_if_ne (tgt := 42) hx hb dX12_standingOf_35 (by decide) (fun c35 => ?_) (fun c35 => ?_)
      · refine lv_iconst (v := 2) hx hb dX12_standingOf_42 (by decide) ?_
        exact x_iret hC hr hkL hH (by first | (rw [standF, if_pos c4]; done) | (rw [standF, if_neg c4]; exact cI_t c20) | (rw [standF, if_neg c4]; refine (cI_f c20).trans ?_; first | exact if_pos c35 | exact if_neg c35)) rfl dX12_standingOf_43
      · refine lv_iconst (v := 0) hx hb dX12_standingOf_38 (by decide) ?_
        refine lv_goto (tgt := 43) hx hb dX12_standingOf_39 (by decide) ?_
        exact x_iret hC hr hkL hH (by first | (rw [standF, if_pos c4]; done) | (rw [standF, if_neg c4]; exact cI_t c20) | (rw [standF, if_neg c4]; refine (cI_f c20).trans ?_; first | exact if_pos c35 | exact if_neg c35)) rfl dX12_standingOf_43
    · refine lv_iconst (v := 1) hx hb dX12_standingOf_23 (by decide) ?_
      refine lv_goto (tgt := 43) hx hb dX12_standingOf_24 (by decide) ?_
      exact x_iret hC hr hkL hH (by first | (rw [standF, if_pos c4]; done) | (rw [standF, if_neg c4]; exact cI_t c20) | (rw [standF, if_neg c4]; refine (cI_f c20).trans ?_; first | exact if_pos c35 | exact if_neg c35)) rfl dX12_standingOf_43
  · refine lv_iconst (v := 2) hx hb dX12_standingOf_7 (by decide) ?_
    refine lv_goto (tgt := 43) hx hb dX12_standingOf_8 (by decide) ?_
    exact x_iret hC hr hkL hH (by first | (rw [standF, if_pos c4]; done) | (rw [standF, if_neg c4]; exact cI_t c20) | (rw [standF, if_neg c4]; refine (cI_f c20).trans ?_; first | exact if_pos c35 | exact if_neg c35)) rfl dX12_standingOf_43
set_option maxHeartbeats 4000000 in
set_option maxRecDepth 100000 in
theorem k_X12_weightOf (l : Launch) (G : GP) (ad : Nat → Nat) (σ : Nat → Nat → Int32) (e : Int32) (β : Bk) (hR : RB (σ 2) β) : CT l G yX12_weightOf cX12_weightOf 5 (some .long) 0 [.ref (ad 0), .int e] (WM G ad σ) (some (.long (wgtA β e))) (WM G ad σ) := by
  refine x_meth "BetsOnBetsModel" rfl (by decide +kernel) (by rfl) (Nat.le_of_ble_eq_true rfl) ?_
  intro pP eE sS mM args below meth cC A ls hC hr hkL hK hZ hA hH hl
  have hx := hC.1
  have hb := hC.2.1
  have hl : lv_has ls 5 [(0, .ref (ad 0)), (1, .int e)] := hl
  have hh4 := hR.2.2.1
  have hk6 := hR.2.2.2.1
  have pwh := pw4 hh4
  have pwk := pw6 hk6
  refine lv_lconst (v := 1) hx hb dX12_weightOf_0 (by decide) ?_
  refine lv_lstore_n (lv' := [(2, .long (1 : Int64)), (0, .ref (ad 0)), (1, .int e)]) hx hb dX12_weightOf_1 rfl hl (by decide) rfl (fun ls hl => ?_)
  refine lv_iconst (v := 0) hx hb dX12_weightOf_2 (by decide) ?_
  refine lv_istore (lv' := [(4, .int 0), (2, .long (1 : Int64)), (0, .ref (ad 0)), (1, .int e)]) hx hb dX12_weightOf_3 hl (by decide) rfl (fun ls hl => ?_)
  refine x_loop (G := G) (A := A) (H0 := sS.heap) (nL := 5) (α := Nat) (fun q_ => (bH β) - q_) (fun q_ => q_ ≤ (bH β)) (fun q_ => WM G ad σ) (fun q_ => [(0, .ref (ad 0)), (1, .int e), (2, .long (wgt β e q_)), (4, .int (nI q_))]) ?_ 0 (show 0 ≤ (bH β) from (Nat.zero_le _)) ?_ ?_
  · rintro h hi_h ih_h H locs ls hH hl
    replace hi_h : h ≤ (bH β) := hi_h
    replace hH : Hx G A (WM G ad σ) sS.heap H locs := hH
    replace hl : lv_has ls 5 [(0, .ref (ad 0)), (1, .int e), (2, .long (wgt β e h)), (4, .int (nI h))] := hl
    refine lv_iload hx hb dX12_weightOf_5 (lv_at hl 3 rfl) ?_
    refine lv_aload_n hx hb dX12_weightOf_7 rfl (lv_at hl 0 rfl) ?_
    refine gf_X12_13 (v := .ref (ad 2)) hC hK hH 0 rfl rfl dX12_weightOf_8 ?_
    refine lv_iconst (v := 0) hx hb dX12_weightOf_11 (by decide) ?_
    refine x_ialN (f := (σ 2)) hC hK hH 2 0 rfl rfl (by decide) (Nat.le_of_ble_eq_true rfl) dX12_weightOf_12 ?_
    refine lv_icmp_ge (tgt := 61) hx hb dX12_weightOf_13 (by decide) (fun c13 => ?_) (fun c13 => ?_)
    · have ge_h := lp_out (n := bH β) hR.1 (by omega) (by omega) c13
      have eq_h : h = bH β := by omega
      refine lv_lload_n hx hb dX12_weightOf_61 rfl (lv_at hl 2 rfl) ?_
      exact x_lret hC hr hkL hH (by rw [eq_h]; rfl) rfl dX12_weightOf_62
    · have lt_h := lp_in (n := bH β) hR.1 (by omega) (by omega) c13
      refine lv_lload_n hx hb dX12_weightOf_16 rfl (lv_at hl 2 rfl) ?_
      refine x_meet1 (G := G) (A := A) (H0 := sS.heap) (nL := 5) (WM G ad σ) [(0, .ref (ad 0)), (1, .int e), (2, .long (wgt β e h)), (4, .int (nI h))] 53 [.long (wfac β e h), .long (wgt β e h)] ?_ ?_
      · intro H locs ls hH hl
        refine lv_lmul hx hb dX12_weightOf_53 ?_
        refine lv_lstore_n (lv' := [(2, .long ((wgt β e h) * (wfac β e h))), (0, .ref (ad 0)), (1, .int e), (4, .int (nI h))]) hx hb dX12_weightOf_54 rfl hl (by decide) rfl (fun ls hl => ?_)
        refine lv_iinc (v := ((nI h) + 1)) (lv' := [(4, .int ((nI h) + 1)), (2, .long ((wgt β e h) * (wfac β e h))), (0, .ref (ad 0)), (1, .int e)]) hx hb dX12_weightOf_55 hl (k := 3) rfl rfl (by decide) rfl (fun ls hl => ?_)
        refine lv_goto (tgt := 5) hx hb dX12_weightOf_58 (by decide) ?_
        exact ih_h (h + 1) (show (h + 1) ≤ (bH β) from (by omega)) (show (bH β) - (h + 1) < (bH β) - h from (by omega)) _ _ _ (hH.eq rfl) (lv_eq (lv_sub hl [2, 3, 1, 0] rfl) (lc_s (lc_s (lc_l (by first | rfl | exact nI_1 _ : ((wgt β e h) * (wfac β e h)) = (wgt β e (h + 1))) (lc_i (by first | rfl | exact nI_1 _ : ((nI h) + 1) = (nI (h + 1))) rfl)))))
      · intro kJ17
        refine lv_iload_n hx hb dX12_weightOf_17 rfl (lv_at hl 1 rfl) ?_
        refine lv_iload hx hb dX12_weightOf_18 (lv_at hl 3 rfl) ?_
        refine lv_ishr hx hb dX12_weightOf_20 ?_
        refine lv_iconst (v := 1) hx hb dX12_weightOf_21 (by decide) ?_
        refine lv_iand hx hb dX12_weightOf_22 ?_
        refine lv_iconst (v := 1) hx hb dX12_weightOf_23 (by decide) ?_
        refine lv_icmp_ne (tgt := 40) hx hb dX12_weightOf_24 (by decide) (fun c24 => ?_) (fun c24 => ?_)
        · refine lv_bipush (v := 100) hx hb dX12_weightOf_40 (by decide) ?_
          refine lv_aload_n hx hb dX12_weightOf_42 rfl (lv_at hl 0 rfl) ?_
          refine gf_X12_13 (v := .ref (ad 2)) hC hK hH 0 rfl rfl dX12_weightOf_43 ?_
          refine lv_iconst (v := 2) hx hb dX12_weightOf_46 (by decide) ?_
          refine lv_iload hx hb dX12_weightOf_47 (lv_at hl 3 rfl) ?_
          refine lv_iadd hx hb dX12_weightOf_49 ?_
          refine x_ialN (f := (σ 2)) hC hK hH 2 (2 + h) rfl (by rw [nIa]; rfl) (by omega) (Nat.le_of_ble_eq_true rfl) dX12_weightOf_50 ?_
          refine x_topE (y := (bC β h)) (hR.2.2.2.2.1 _ (by omega)) ?_
          refine lv_isub hx hb dX12_weightOf_51 ?_
          refine lv_i2l (v := ((100 - (bC β h)).toInt64)) hx hb dX12_weightOf_52 rfl ?_
          refine x_topL (y := (wfac β e h)) (by first | exact (cI_t c24).symm | exact (cI_f c24).symm) ?_
          exact kJ17 _ _ _ (hH.eq rfl) (lv_eq (lv_sub hl [0, 1, 2, 3] rfl) (lc_s (lc_s (lc_s (lc_s rfl)))))
        · refine lv_aload_n hx hb dX12_weightOf_27 rfl (lv_at hl 0 rfl) ?_
          refine gf_X12_13 (v := .ref (ad 2)) hC hK hH 0 rfl rfl dX12_weightOf_28 ?_
          refine lv_iconst (v := 2) hx hb dX12_weightOf_31 (by decide) ?_
          refine lv_iload hx hb dX12_weightOf_32 (lv_at hl 3 rfl) ?_
          refine lv_iadd hx hb dX12_weightOf_34 ?_
          refine x_ialN (f := (σ 2)) hC hK hH 2 (2 + h) rfl (by rw [nIa]; rfl) (by omega) (Nat.le_of_ble_eq_true rfl) dX12_weightOf_35 ?_
          refine x_topE (y := (bC β h)) (hR.2.2.2.2.1 _ (by omega)) ?_
          refine lv_i2l (v := ((bC β h).toInt64)) hx hb dX12_weightOf_36 rfl ?_
          refine lv_goto (tgt := 53) hx hb dX12_weightOf_37 (by decide) ?_
          refine x_topL (y := (wfac β e h)) (by first | exact (cI_t c24).symm | exact (cI_f c24).symm) ?_
          exact kJ17 _ _ _ (hH.eq rfl) (lv_eq (lv_sub hl [0, 1, 2, 3] rfl) (lc_s (lc_s (lc_s (lc_s rfl)))))
  · exact hH.eq rfl
  · exact lv_eq (lv_sub hl [2, 3, 1, 0] rfl) (lc_s (lc_s (lc_l (by rfl : (1 : Int64) = (wgt β e 0)) (lc_i (by rfl : 0 = (nI 0)) rfl))))
set_option maxHeartbeats 4000000 in
set_option maxRecDepth 100000 in
theorem k_X12_wholeWeight (l : Launch) (G : GP) (ad : Nat → Nat) (σ : Nat → Nat → Int32) (β : Bk) (hR : RB (σ 2) β) : CT l G yX12_wholeWeight cX12_wholeWeight 4 (some .long) 0 [.ref (ad 0)] (WM G ad σ) (some (.long (whl (bH β)))) (WM G ad σ) := by
  refine x_meth "BetsOnBetsModel" rfl (by decide +kernel) (by rfl) (Nat.le_of_ble_eq_true rfl) ?_
  intro pP eE sS mM args below meth cC A ls hC hr hkL hK hZ hA hH hl
  have hx := hC.1
  have hb := hC.2.1
  have hl : lv_has ls 4 [(0, .ref (ad 0))] := hl
  have hh4 := hR.2.2.1
  have hk6 := hR.2.2.2.1
  have pwh := pw4 hh4
  have pwk := pw6 hk6
  refine lv_lconst (v := 1) hx hb dX12_wholeWeight_0 (by decide) ?_
  refine lv_lstore_n (lv' := [(1, .long (1 : Int64)), (0, .ref (ad 0))]) hx hb dX12_wholeWeight_1 rfl hl (by decide) rfl (fun ls hl => ?_)
  refine lv_iconst (v := 0) hx hb dX12_wholeWeight_2 (by decide) ?_
  refine lv_istore_n (lv' := [(3, .int 0), (1, .long (1 : Int64)), (0, .ref (ad 0))]) hx hb dX12_wholeWeight_3 rfl hl (by decide) rfl (fun ls hl => ?_)
  refine x_loop (G := G) (A := A) (H0 := sS.heap) (nL := 4) (α := Nat) (fun q_ => (bH β) - q_) (fun q_ => q_ ≤ (bH β)) (fun q_ => WM G ad σ) (fun q_ => [(0, .ref (ad 0)), (1, .long (whl q_)), (3, .int (nI q_))]) ?_ 0 (show 0 ≤ (bH β) from (Nat.zero_le _)) ?_ ?_
  · rintro h hi_h ih_h H locs ls hH hl
    replace hi_h : h ≤ (bH β) := hi_h
    replace hH : Hx G A (WM G ad σ) sS.heap H locs := hH
    replace hl : lv_has ls 4 [(0, .ref (ad 0)), (1, .long (whl h)), (3, .int (nI h))] := hl
    refine lv_iload_n hx hb dX12_wholeWeight_4 rfl (lv_at hl 2 rfl) ?_
    refine lv_aload_n hx hb dX12_wholeWeight_5 rfl (lv_at hl 0 rfl) ?_
    refine gf_X12_13 (v := .ref (ad 2)) hC hK hH 0 rfl rfl dX12_wholeWeight_6 ?_
    refine lv_iconst (v := 0) hx hb dX12_wholeWeight_9 (by decide) ?_
    refine x_ialN (f := (σ 2)) hC hK hH 2 0 rfl rfl (by decide) (Nat.le_of_ble_eq_true rfl) dX12_wholeWeight_10 ?_
    refine lv_icmp_ge (tgt := 26) hx hb dX12_wholeWeight_11 (by decide) (fun c11 => ?_) (fun c11 => ?_)
    · have ge_h := lp_out (n := bH β) hR.1 (by omega) (by omega) c11
      have eq_h : h = bH β := by omega
      refine lv_lload_n hx hb dX12_wholeWeight_26 rfl (lv_at hl 1 rfl) ?_
      exact x_lret hC hr hkL hH (by rw [eq_h]) rfl dX12_wholeWeight_27
    · have lt_h := lp_in (n := bH β) hR.1 (by omega) (by omega) c11
      refine lv_lload_n hx hb dX12_wholeWeight_14 rfl (lv_at hl 1 rfl) ?_
      refine lv_ldc2 (v := 100) hx hb hC.2.2.2.1 (hC.2.2.2.2 _ wd_954) dX12_wholeWeight_15 ?_
      refine lv_lmul hx hb dX12_wholeWeight_18 ?_
      refine lv_lstore_n (lv' := [(1, .long ((whl h) * (100 : Int64))), (0, .ref (ad 0)), (3, .int (nI h))]) hx hb dX12_wholeWeight_19 rfl hl (by decide) rfl (fun ls hl => ?_)
      refine lv_iinc (v := ((nI h) + 1)) (lv' := [(3, .int ((nI h) + 1)), (1, .long ((whl h) * (100 : Int64))), (0, .ref (ad 0))]) hx hb dX12_wholeWeight_20 hl (k := 2) rfl rfl (by decide) rfl (fun ls hl => ?_)
      refine lv_goto (tgt := 4) hx hb dX12_wholeWeight_23 (by decide) ?_
      exact ih_h (h + 1) (show (h + 1) ≤ (bH β) from (by omega)) (show (bH β) - (h + 1) < (bH β) - h from (by omega)) _ _ _ (hH.eq rfl) (lv_eq (lv_sub hl [2, 1, 0] rfl) (lc_s (lc_l (by first | rfl | exact nI_1 _ : ((whl h) * (100 : Int64)) = (whl (h + 1))) (lc_i (by first | rfl | exact nI_1 _ : ((nI h) + 1) = (nI (h + 1))) rfl))))
  · exact hH.eq rfl
  · exact lv_eq (lv_sub hl [2, 1, 0] rfl) (lc_s (lc_l (by rfl : (1 : Int64) = (whl 0)) (lc_i (by rfl : 0 = (nI 0)) rfl)))
set_option maxHeartbeats 4000000 in
set_option maxRecDepth 100000 in
theorem k_X12_purseOf (l : Launch) (G : GP) (ad : Nat → Nat) (σ : Nat → Nat → Int32) (p : Int32) (e : Int32) (β : Bk) (hR : RB (σ 2) β) : CTE l G yX12_purseOf cX12_purseOf 7 (some .int) 4 [.ref (ad 0), .int p, .int e] (WM G ad σ) (some (.int (purA β p e))) (fun z => WM G ad (ua σ 0 (upd (upd (upd (upd (σ 0) 9 (z 0 9)) 10 (z 0 10)) 11 (z 0 11)) 12 (z 0 12)))) := by
  refine x_methE "BetsOnBetsModel" rfl (by decide +kernel) (fun z => by rfl) (Nat.le_of_ble_eq_true rfl) ?_
  intro pP eE sS mM args below meth cC A ls hC hr hkL hK hZ hA hH hl
  have hx := hC.1
  have hb := hC.2.1
  have hl : lv_has ls 7 [(0, .ref (ad 0)), (1, .int p), (2, .int e)] := hl
  have hh4 := hR.2.2.1
  have hk6 := hR.2.2.2.1
  have pwh := pw4 hh4
  have pwk := pw6 hk6
  refine lv_aload_n hx hb dX12_purseOf_0 rfl (lv_at hl 0 rfl) ?_
  refine lv_iload_n hx hb dX12_purseOf_1 rfl (lv_at hl 2 rfl) ?_
  refine x_callVA (ws' := WM G ad (ua σ 0 (upd (upd (upd (upd (σ 0) 9 ((fwA β e).1)) 10 ((fwA β e).2.1)) 11 ((fwA β e).2.2.1)) 12 ((fwA β e).2.2.2)))) (As := [.int e]) (rest := []) (st' := []) hC hK hZ hA hl.1 hH (k_X12_findsWays l G ad σ e β hR) lk_X12_125 rfl 0 11 rfl rfl rfl ⟨Nat.le_of_ble_eq_true rfl, Nat.le_of_ble_eq_true rfl⟩ ⟨Nat.le_refl _, Nat.le_refl _⟩ (Nat.le_of_ble_eq_true rfl) rfl dX12_purseOf_2 (fun H locs hH => ?_)
  refine lv_iconst (v := 0) hx hb dX12_purseOf_5 (by decide) ?_
  refine lv_istore_n (lv' := [(3, .int 0), (0, .ref (ad 0)), (1, .int p), (2, .int e)]) hx hb dX12_purseOf_6 rfl hl (by decide) rfl (fun ls hl => ?_)
  refine lv_iconst (v := 0) hx hb dX12_purseOf_7 (by decide) ?_
  refine lv_istore (lv' := [(4, .int 0), (3, .int 0), (0, .ref (ad 0)), (1, .int p), (2, .int e)]) hx hb dX12_purseOf_8 hl (by decide) rfl (fun ls hl => ?_)
  refine x_loop (G := G) (A := A) (H0 := sS.heap) (nL := 7) (α := Nat) (fun q_ => (bK β) - q_) (fun q_ => q_ ≤ (bK β)) (fun q_ => WM G ad (ua σ 0 (upd (upd (upd (upd (σ 0) 9 ((fwA β e).1)) 10 ((fwA β e).2.1)) 11 ((fwA β e).2.2.1)) 12 ((fwA β e).2.2.2)))) (fun q_ => [(0, .ref (ad 0)), (1, .int p), (2, .int e), (3, .int (purR β p e q_)), (4, .int (nI q_))]) ?_ 0 (show 0 ≤ (bK β) from (Nat.zero_le _)) ?_ ?_
  · rintro b hi_b ih_b H locs ls hH hl
    replace hi_b : b ≤ (bK β) := hi_b
    replace hH : Hx G A (WM G ad (ua σ 0 (upd (upd (upd (upd (σ 0) 9 ((fwA β e).1)) 10 ((fwA β e).2.1)) 11 ((fwA β e).2.2.1)) 12 ((fwA β e).2.2.2)))) sS.heap H locs := hH
    replace hl : lv_has ls 7 [(0, .ref (ad 0)), (1, .int p), (2, .int e), (3, .int (purR β p e b)), (4, .int (nI b))] := hl
    refine lv_iload hx hb dX12_purseOf_10 (lv_at hl 4 rfl) ?_
    refine lv_aload_n hx hb dX12_purseOf_12 rfl (lv_at hl 0 rfl) ?_
    refine gf_X12_13 (v := .ref (ad 2)) hC hK hH 0 rfl rfl dX12_purseOf_13 ?_
    refine lv_iconst (v := 1) hx hb dX12_purseOf_16 (by decide) ?_
    refine x_ialN (f := (σ 2)) hC hK hH 2 1 rfl rfl (by decide) (Nat.le_of_ble_eq_true rfl) dX12_purseOf_17 ?_
    refine lv_icmp_ge (tgt := 119) hx hb dX12_purseOf_18 (by decide) (fun c18 => ?_) (fun c18 => ?_)
    · have ge_b := lp_out (n := bK β) hR.2.1 (by omega) (by omega) c18
      have eq_b : b = bK β := by omega
      refine lv_iload_n hx hb dX12_purseOf_119 rfl (lv_at hl 3 rfl) ?_
      exact x_iretE (ua σ 0 (upd (upd (upd (upd (σ 0) 9 ((fwA β e).1)) 10 ((fwA β e).2.1)) 11 ((fwA β e).2.2.1)) 12 ((fwA β e).2.2.2))) hC hr hkL hH (by rw [eq_b]; rfl) rfl dX12_purseOf_120
    · have lt_b := lp_in (n := bK β) hR.2.1 (by omega) (by omega) c18
      refine x_meet1 (G := G) (A := A) (H0 := sS.heap) (nL := 7) (WM G ad (ua σ 0 (upd (upd (upd (upd (σ 0) 9 ((fwA β e).1)) 10 ((fwA β e).2.1)) 11 ((fwA β e).2.2.1)) 12 ((fwA β e).2.2.2)))) [(0, .ref (ad 0)), (1, .int p), (2, .int e), (3, .int (purR β p e b)), (4, .int (nI b))] 53 [.int (sideR β p b)] ?_ ?_
      · intro H locs ls hH hl
        refine lv_istore (lv' := [(5, .int (sideR β p b)), (0, .ref (ad 0)), (1, .int p), (2, .int e), (3, .int (purR β p e b)), (4, .int (nI b))]) hx hb dX12_purseOf_53 hl (by decide) rfl (fun ls hl => ?_)
        refine lv_aload_n hx hb dX12_purseOf_55 rfl (lv_at hl 1 rfl) ?_
        refine lv_iload hx hb dX12_purseOf_56 (lv_at hl 5 rfl) ?_
        refine x_callVA (ws' := WM G ad (ua σ 0 (upd (upd (upd (upd (σ 0) 9 ((fwA β e).1)) 10 ((fwA β e).2.1)) 11 ((fwA β e).2.2.1)) 12 ((fwA β e).2.2.2)))) (As := [.int (nI b)]) (rest := []) (st' := [.int (standF (fwA β e).1 (fwA β e).2.2.2 (fwA β e).2.2.1 (nI b))]) hC hK hZ hA hl.1 hH (k_X12_standingOf l G ad (ua σ 0 (upd (upd (upd (upd (σ 0) 9 ((fwA β e).1)) 10 ((fwA β e).2.1)) 11 ((fwA β e).2.2.1)) 12 ((fwA β e).2.2.2))) (nI b)) lk_X12_129 rfl 0 11 rfl rfl rfl ⟨Nat.le_of_ble_eq_true rfl, Nat.le_of_ble_eq_true rfl⟩ ⟨Nat.le_refl _, Nat.le_refl _⟩ (Nat.le_of_ble_eq_true rfl) rfl dX12_purseOf_58 (fun H locs hH => ?_)
        refine x_topE (y := (stP β e b)) rfl ?_
        refine lv_istore (lv' := [(6, .int (stP β e b)), (5, .int (sideR β p b)), (0, .ref (ad 0)), (1, .int p), (2, .int e), (3, .int (purR β p e b)), (4, .int (nI b))]) hx hb dX12_purseOf_61 hl (by decide) rfl (fun ls hl => ?_)
        refine lv_iload_n hx hb dX12_purseOf_63 rfl (lv_at hl 5 rfl) ?_
        refine x_meet1 (G := G) (A := A) (H0 := sS.heap) (nL := 7) (WM G ad (ua σ 0 (upd (upd (upd (upd (σ 0) 9 ((fwA β e).1)) 10 ((fwA β e).2.1)) 11 ((fwA β e).2.2.1)) 12 ((fwA β e).2.2.2)))) [(0, .ref (ad 0)), (1, .int p), (2, .int e), (3, .int (purR β p e b)), (4, .int (nI b)), (5, .int (sideR β p b)), (6, .int (stP β e b))] 111 [.int (dltR β p e b), .int (purR β p e b)] ?_ ?_
        · intro H locs ls hH hl
          refine lv_iadd hx hb dX12_purseOf_111 ?_
          refine lv_istore_n (lv' := [(3, .int ((purR β p e b) + (dltR β p e b))), (0, .ref (ad 0)), (1, .int p), (2, .int e), (4, .int (nI b)), (5, .int (sideR β p b)), (6, .int (stP β e b))]) hx hb dX12_purseOf_112 rfl hl (by decide) rfl (fun ls hl => ?_)
          refine lv_iinc (v := ((nI b) + 1)) (lv' := [(4, .int ((nI b) + 1)), (3, .int ((purR β p e b) + (dltR β p e b))), (0, .ref (ad 0)), (1, .int p), (2, .int e), (5, .int (sideR β p b)), (6, .int (stP β e b))]) hx hb dX12_purseOf_113 hl (k := 4) rfl rfl (by decide) rfl (fun ls hl => ?_)
          refine lv_goto (tgt := 10) hx hb dX12_purseOf_116 (by decide) ?_
          exact ih_b (b + 1) (show (b + 1) ≤ (bK β) from (by omega)) (show (bK β) - (b + 1) < (bK β) - b from (by omega)) _ _ _ (hH.eq rfl) (lv_eq (lv_sub hl [2, 3, 4, 1, 0] rfl) (lc_s (lc_s (lc_s (lc_i (by first | rfl | exact nI_1 _ : ((purR β p e b) + (dltR β p e b)) = (purR β p e (b + 1))) (lc_i (by first | rfl | exact nI_1 _ : ((nI b) + 1) = (nI (b + 1))) rfl))))))
        · intro kJ64
          refine lv_iload hx hb dX12_purseOf_64 (lv_at hl 0 rfl) ?_
          refine lv_iconst (v := 1) hx hb dX12_purseOf_66 (by decide) ?_
          refine lv_icmp_ne (tgt := 91) hx hb dX12_purseOf_67 (by decide) (fun c67 => ?_) (fun c67 => ?_)
          · refine lv_iload hx hb dX12_purseOf_91 (lv_at hl 0 rfl) ?_
            refine lv_if_ne (tgt := 110) hx hb dX12_purseOf_93 (by decide) (fun c93 => ?_) (fun c93 => ?_)
            · refine lv_iconst (v := 0) hx hb dX12_purseOf_110 (by decide) ?_
              refine x_topE (y := (dltR β p e b)) (by first | exact (if_pos c67).symm | exact ((if_neg c67).trans (if_pos c93)).symm | exact ((if_neg c67).trans (if_neg c93)).symm) ?_
              exact kJ64 _ _ _ (hH.eq rfl) (lv_eq (lv_sub hl [2, 3, 4, 5, 6, 1, 0] rfl) (lc_s (lc_s (lc_s (lc_s (lc_s (lc_s (lc_s rfl))))))))
            · refine lv_iload hx hb dX12_purseOf_96 (lv_at hl 1 rfl) ?_
              refine lv_ineg hx hb dX12_purseOf_98 ?_
              refine lv_aload_n hx hb dX12_purseOf_99 rfl (lv_at hl 2 rfl) ?_
              refine lv_iload hx hb dX12_purseOf_100 (lv_at hl 6 rfl) ?_
              refine lv_iconst (v := 3) hx hb dX12_purseOf_102 (by decide) ?_
              refine x_callVA (ws' := WM G ad (ua σ 0 (upd (upd (upd (upd (σ 0) 9 ((fwA β e).1)) 10 ((fwA β e).2.1)) 11 ((fwA β e).2.2.1)) 12 ((fwA β e).2.2.2)))) (As := [.int (nI b), .int 3]) (rest := [.int (-(sideR β p b)), .int (purR β p e b)]) (st' := [.int (nm β b 3), .int (-(sideR β p b)), .int (purR β p e b)]) hC hK hZ hA hl.1 hH (k_X12_get l G ad (ua σ 0 (upd (upd (upd (upd (σ 0) 9 ((fwA β e).1)) 10 ((fwA β e).2.1)) 11 ((fwA β e).2.2.1)) 12 ((fwA β e).2.2.2))) (nI b) 3 β b 3 hR rfl rfl (by omega) (by decide)) lk_X12_96 rfl 0 11 rfl rfl rfl ⟨Nat.le_of_ble_eq_true rfl, Nat.le_of_ble_eq_true rfl⟩ ⟨Nat.le_refl _, Nat.le_refl _⟩ (Nat.le_of_ble_eq_true rfl) rfl dX12_purseOf_103 (fun H locs hH => ?_)
              refine lv_imul hx hb dX12_purseOf_106 ?_
              refine lv_goto (tgt := 111) hx hb dX12_purseOf_107 (by decide) ?_
              refine x_topE (y := (dltR β p e b)) (by first | exact (if_pos c67).symm | exact ((if_neg c67).trans (if_pos c93)).symm | exact ((if_neg c67).trans (if_neg c93)).symm) ?_
              exact kJ64 _ _ _ (hH.eq rfl) (lv_eq (lv_sub hl [2, 3, 4, 5, 6, 1, 0] rfl) (lc_s (lc_s (lc_s (lc_s (lc_s (lc_s (lc_s rfl))))))))
          · refine lv_iload hx hb dX12_purseOf_70 (lv_at hl 1 rfl) ?_
            refine lv_aload_n hx hb dX12_purseOf_72 rfl (lv_at hl 2 rfl) ?_
            refine lv_iload hx hb dX12_purseOf_73 (lv_at hl 6 rfl) ?_
            refine lv_iconst (v := 3) hx hb dX12_purseOf_75 (by decide) ?_
            refine x_callVA (ws' := WM G ad (ua σ 0 (upd (upd (upd (upd (σ 0) 9 ((fwA β e).1)) 10 ((fwA β e).2.1)) 11 ((fwA β e).2.2.1)) 12 ((fwA β e).2.2.2)))) (As := [.int (nI b), .int 3]) (rest := [.int (sideR β p b), .int (purR β p e b)]) (st' := [.int (nm β b 3), .int (sideR β p b), .int (purR β p e b)]) hC hK hZ hA hl.1 hH (k_X12_get l G ad (ua σ 0 (upd (upd (upd (upd (σ 0) 9 ((fwA β e).1)) 10 ((fwA β e).2.1)) 11 ((fwA β e).2.2.1)) 12 ((fwA β e).2.2.2))) (nI b) 3 β b 3 hR rfl rfl (by omega) (by decide)) lk_X12_96 rfl 0 11 rfl rfl rfl ⟨Nat.le_of_ble_eq_true rfl, Nat.le_of_ble_eq_true rfl⟩ ⟨Nat.le_refl _, Nat.le_refl _⟩ (Nat.le_of_ble_eq_true rfl) rfl dX12_purseOf_76 (fun H locs hH => ?_)
            refine lv_imul hx hb dX12_purseOf_79 ?_
            refine lv_aload_n hx hb dX12_purseOf_80 rfl (lv_at hl 2 rfl) ?_
            refine lv_iload hx hb dX12_purseOf_81 (lv_at hl 6 rfl) ?_
            refine lv_iconst (v := 4) hx hb dX12_purseOf_83 (by decide) ?_
            refine x_callVA (ws' := WM G ad (ua σ 0 (upd (upd (upd (upd (σ 0) 9 ((fwA β e).1)) 10 ((fwA β e).2.1)) 11 ((fwA β e).2.2.1)) 12 ((fwA β e).2.2.2)))) (As := [.int (nI b), .int 4]) (rest := [.int ((sideR β p b) * (nm β b 3)), .int (purR β p e b)]) (st' := [.int (nm β b 4), .int ((sideR β p b) * (nm β b 3)), .int (purR β p e b)]) hC hK hZ hA hl.1 hH (k_X12_get l G ad (ua σ 0 (upd (upd (upd (upd (σ 0) 9 ((fwA β e).1)) 10 ((fwA β e).2.1)) 11 ((fwA β e).2.2.1)) 12 ((fwA β e).2.2.2))) (nI b) 4 β b 4 hR rfl rfl (by omega) (by decide)) lk_X12_96 rfl 0 11 rfl rfl rfl ⟨Nat.le_of_ble_eq_true rfl, Nat.le_of_ble_eq_true rfl⟩ ⟨Nat.le_refl _, Nat.le_refl _⟩ (Nat.le_of_ble_eq_true rfl) rfl dX12_purseOf_84 (fun H locs hH => ?_)
            refine lv_imul hx hb dX12_purseOf_87 ?_
            refine lv_goto (tgt := 111) hx hb dX12_purseOf_88 (by decide) ?_
            refine x_topE (y := (dltR β p e b)) (by first | exact (if_pos c67).symm | exact ((if_neg c67).trans (if_pos c93)).symm | exact ((if_neg c67).trans (if_neg c93)).symm) ?_
            exact kJ64 _ _ _ (hH.eq rfl) (lv_eq (lv_sub hl [2, 3, 4, 5, 6, 1, 0] rfl) (lc_s (lc_s (lc_s (lc_s (lc_s (lc_s (lc_s rfl))))))))
      · intro kJ21
        refine lv_aload_n hx hb dX12_purseOf_21 rfl (lv_at hl 0 rfl) ?_
        refine lv_iload hx hb dX12_purseOf_22 (lv_at hl 4 rfl) ?_
        refine lv_iconst (v := 5) hx hb dX12_purseOf_24 (by decide) ?_
        refine x_callVA (ws' := WM G ad (ua σ 0 (upd (upd (upd (upd (σ 0) 9 ((fwA β e).1)) 10 ((fwA β e).2.1)) 11 ((fwA β e).2.2.1)) 12 ((fwA β e).2.2.2)))) (As := [.int (nI b), .int 5]) (rest := []) (st' := [.int (nm β b 5)]) hC hK hZ hA hl.1 hH (k_X12_get l G ad (ua σ 0 (upd (upd (upd (upd (σ 0) 9 ((fwA β e).1)) 10 ((fwA β e).2.1)) 11 ((fwA β e).2.2.1)) 12 ((fwA β e).2.2.2))) (nI b) 5 β b 5 hR rfl rfl (by omega) (by decide)) lk_X12_96 rfl 0 11 rfl rfl rfl ⟨Nat.le_of_ble_eq_true rfl, Nat.le_of_ble_eq_true rfl⟩ ⟨Nat.le_refl _, Nat.le_refl _⟩ (Nat.le_of_ble_eq_true rfl) rfl dX12_purseOf_25 (fun H locs hH => ?_)
        refine lv_iload_n hx hb dX12_purseOf_28 rfl (lv_at hl 1 rfl) ?_
        refine lv_icmp_ne (tgt := 36) hx hb dX12_purseOf_29 (by decide) (fun c29 => ?_) (fun c29 => ?_)
        · refine lv_aload_n hx hb dX12_purseOf_36 rfl (lv_at hl 0 rfl) ?_
          refine lv_iload hx hb dX12_purseOf_37 (lv_at hl 4 rfl) ?_
          refine lv_bipush (v := 6) hx hb dX12_purseOf_39 (by decide) ?_
          refine x_callVA (ws' := WM G ad (ua σ 0 (upd (upd (upd (upd (σ 0) 9 ((fwA β e).1)) 10 ((fwA β e).2.1)) 11 ((fwA β e).2.2.1)) 12 ((fwA β e).2.2.2)))) (As := [.int (nI b), .int 6]) (rest := []) (st' := [.int (nm β b 6)]) hC hK hZ hA hl.1 hH (k_X12_get l G ad (ua σ 0 (upd (upd (upd (upd (σ 0) 9 ((fwA β e).1)) 10 ((fwA β e).2.1)) 11 ((fwA β e).2.2.1)) 12 ((fwA β e).2.2.2))) (nI b) 6 β b 6 hR rfl rfl (by omega) (by decide)) lk_X12_96 rfl 0 11 rfl rfl rfl ⟨Nat.le_of_ble_eq_true rfl, Nat.le_of_ble_eq_true rfl⟩ ⟨Nat.le_refl _, Nat.le_refl _⟩ (Nat.le_of_ble_eq_true rfl) rfl dX12_purseOf_41 (fun H locs hH => ?_)
          refine lv_iload_n hx hb dX12_purseOf_44 rfl (lv_at hl 1 rfl) ?_
          refine lv_icmp_ne (tgt := 52) hx hb dX12_purseOf_45 (by decide) (fun c45 => ?_) (fun c45 => ?_)
          · refine lv_iconst (v := 0) hx hb dX12_purseOf_52 (by decide) ?_
            refine x_topE (y := (sideR β p b)) (by first | exact (if_pos c29).symm | exact ((if_neg c29).trans (if_pos c45)).symm | exact ((if_neg c29).trans (if_neg c45)).symm) ?_
            exact kJ21 _ _ _ (hH.eq rfl) (lv_eq (lv_sub hl [0, 1, 2, 3, 4] rfl) (lc_s (lc_s (lc_s (lc_s (lc_s rfl))))))
          · refine lv_iconst (v := (-1)) hx hb dX12_purseOf_48 (by decide) ?_
            refine lv_goto (tgt := 53) hx hb dX12_purseOf_49 (by decide) ?_
            refine x_topE (y := (sideR β p b)) (by first | exact (if_pos c29).symm | exact ((if_neg c29).trans (if_pos c45)).symm | exact ((if_neg c29).trans (if_neg c45)).symm) ?_
            exact kJ21 _ _ _ (hH.eq rfl) (lv_eq (lv_sub hl [0, 1, 2, 3, 4] rfl) (lc_s (lc_s (lc_s (lc_s (lc_s rfl))))))
        · refine lv_iconst (v := 1) hx hb dX12_purseOf_32 (by decide) ?_
          refine lv_goto (tgt := 53) hx hb dX12_purseOf_33 (by decide) ?_
          refine x_topE (y := (sideR β p b)) (by first | exact (if_pos c29).symm | exact ((if_neg c29).trans (if_pos c45)).symm | exact ((if_neg c29).trans (if_neg c45)).symm) ?_
          exact kJ21 _ _ _ (hH.eq rfl) (lv_eq (lv_sub hl [0, 1, 2, 3, 4] rfl) (lc_s (lc_s (lc_s (lc_s (lc_s rfl))))))
  · exact hH.eq rfl
  · exact lv_eq (lv_sub hl [2, 3, 4, 1, 0] rfl) (lc_s (lc_s (lc_s (lc_i (by rfl : 0 = (purR β p e 0)) (lc_i (by rfl : 0 = (nI 0)) rfl)))))
