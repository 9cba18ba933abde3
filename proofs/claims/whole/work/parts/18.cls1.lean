/-! the class: small methods, Row, Book -/
def atF (f : Nat → Int32) (n : Nat) (i : Int32) : Int32 := if ¬ i < 0 ∧ ¬ nI n ≤ i then f i.toNatClampNeg else 0
def putF (f : Nat → Int32) (n : Nat) (i v : Int32) : Nat → Int32 := if ¬ i < 0 ∧ ¬ nI n ≤ i then upd f i.toNatClampNeg v else f
theorem ix_in {i : Int32} {n : Nat} (hn : n < 1000) (h1 : ¬ i < 0) (h2 : ¬ nI n ≤ i) : ∃ j, j < n ∧ i = nI j := by
  obtain ⟨j, hj, rfl⟩ := nI_of h1
  exact ⟨j, by have := mt (nI_leI (a := n) (b := j) (by omega) hj).mpr h2; omega, rfl⟩
theorem atF_in {f : Nat → Int32} {n j : Nat} {i : Int32} (hi : i = nI j) (hj : j < n) (hn : n < 1000) : atF f n i = f j := by
  subst hi
  rw [atF, if_pos ⟨nI_pos (by omega), fun z => absurd ((nI_leI (by omega) (by omega)).mp z) (by omega)⟩, nI_clamp (by omega)]
theorem putF_in {f : Nat → Int32} {n j : Nat} {i v : Int32} (hi : i = nI j) (hj : j < n) (hn : n < 1000) : putF f n i v = upd f j v := by
  subst hi
  rw [putF, if_pos ⟨nI_pos (by omega), fun z => absurd ((nI_leI (by omega) (by omega)).mp z) (by omega)⟩, nI_clamp (by omega)]
theorem atF_1 {f : Nat → Int32} {n : Nat} {i : Int32} (h : i < 0) : atF f n i = 0 := if_neg (fun z => z.1 h)
theorem atF_2 {f : Nat → Int32} {n : Nat} {i : Int32} (h : nI n ≤ i) : atF f n i = 0 := if_neg (fun z => z.2 h)
theorem atF_3 {f : Nat → Int32} {n j : Nat} {i : Int32} (h : ¬ i < 0) (h2 : ¬ nI n ≤ i) (e : i = nI j) (hj : j < 2 ^ 31) : atF f n i = f j := by
  rw [atF, if_pos ⟨h, h2⟩, e, nI_clamp hj]
theorem putF_1 {f : Nat → Int32} {n : Nat} {i v : Int32} (h : i < 0) : putF f n i v = f := if_neg (fun z => z.1 h)
theorem putF_2 {f : Nat → Int32} {n : Nat} {i v : Int32} (h : nI n ≤ i) : putF f n i v = f := if_neg (fun z => z.2 h)
theorem putF_3 {f : Nat → Int32} {n j : Nat} {i v : Int32} (h : ¬ i < 0) (h2 : ¬ nI n ≤ i) (e : i = nI j) (hj : j < 2 ^ 31) : putF f n i v = upd f j v := by
  rw [putF, if_pos ⟨h, h2⟩, e, nI_clamp hj]
abbrev bk (h k : Nat) (C N F : Nat → Int32) : Bk := ((h, k), C, N, F)
theorem inb_t {v : Int32} {n : Nat} (h1 : ¬ v < 0) (h2 : ¬ nI n ≤ v) : inb v n := ⟨Int32.not_lt.mp h1, Int32.not_le.mp h2⟩
theorem inb_f1 {v : Int32} {n : Nat} (h : v < 0) : ¬ inb v n := fun z => absurd z.1 (Int32.not_le.mpr h)
theorem inb_f2 {v : Int32} {n : Nat} (h : nI n ≤ v) : ¬ inb v n := fun z => absurd z.2 (Int32.not_lt.mpr h)
theorem mk_16 {v : Int32} (h : ¬ v < 10) : (6 ≤ v - 10 ↔ 16 ≤ v) := by
  obtain ⟨j, hj, rfl⟩ := nI_of (x := v) (fun z => h (Int32.lt_trans z (by decide)))
  have h10 : 10 ≤ j := by
    have := mt (nI_ltI (a := j) (b := 10) hj (by omega)).mpr h
    omega
  rw [show nI j - 10 = nI (j - 10) from pk_sub (a := j) (b := 10) h10]
  rw [show (6 ≤ nI (j - 10) ↔ 6 ≤ j - 10) from nI_leI (a := 6) (b := j - 10) (by omega) (by omega), show (16 ≤ nI j ↔ 16 ≤ j) from nI_leI (a := 16) (b := j) (by omega) hj]
  omega
def riP (h : Nat) (T : Nat → Int32) : Prop := mkP h (T 1) ∧ mkP h (T 2) ∧ 0 < T 3 ∧ (0 ≤ T 5 ∧ T 5 < 4) ∧ (0 ≤ T 6 ∧ T 6 < 4) ∧ ¬ T 5 = T 6
theorem pos_1 {x : Int32} (h : ¬ x < 1) : 0 < x := by
  rw [Int32.not_lt] at h
  exact Int32.lt_of_lt_of_le (by decide) h
theorem npos_1 {x : Int32} (h : x < 1) : ¬ 0 < x := by
  intro z
  rw [Int32.lt_iff_toInt_lt] at h z
  have e0 : (0 : Int32).toInt = 0 := rfl
  have e1 : (1 : Int32).toInt = 1 := rfl
  omega
theorem shB {k : Nat} (h : k ≤ 6) : (1 : Int32) <<< (nI k &&& 31) = nI (2 ^ k) := sh1 k (by omega)
theorem upd_c1 {f : Nat → Int32} {i j : Nat} {a b : Int32} (h : b = f j) (ne : j ≠ i) : upd (upd f i a) j b = upd f i a := upd_id (h.trans (pk_un ne).symm)
theorem upd_c2 {f : Nat → Int32} {i j : Nat} {a b : Int32} (h : a = f i) : upd (upd f i a) j b = upd f j b := by rw [upd_id h]
theorem upd2_id {f : Nat → Int32} {i j : Nat} {a b : Int32} (h : a = f i) (h2 : b = f j) : upd (upd f i a) j b = f := by rw [upd_id h, upd_id h2]
theorem wgt_t {β : Bk} {e : Int32} {i : Nat} (h : tb e (nI i)) : wgt β e i * (bC β i).toInt64 = wgt β e (i + 1) := by rw [wgt, wfac, cI_t h]
theorem wgt_f {β : Bk} {e : Int32} {i : Nat} (h : ¬ tb e (nI i)) : wgt β e i * (100 - bC β i).toInt64 = wgt β e (i + 1) := by rw [wgt, wfac, cI_f h]
noncomputable def csB (β : Bk) (T : Nat → Int32) (c : Int32) : Bk := cI (cmP β T c) (cmB β T c) β
theorem csB_h {β : Bk} {T : Nat → Int32} {c : Int32} (e : c = 104) : csB β T c = ((cI (¬ T 0 < 1 ∧ ¬ bH β = 4) (bH β + 1) (bH β), bK β), cI (¬ T 0 < 1 ∧ ¬ bH β = 4) (upd (bC β) (bH β) (T 0)) (bC β), bN β, bF β) := by
  unfold csB
  by_cases h : ¬ T 0 < 1 ∧ ¬ bH β = 4
  · rw [cI_t ((cmP_h e).mpr h), cmB_h e, cI_t h, cI_t h]
  · rw [cI_f (fun z => h ((cmP_h e).mp z)), cI_f h, cI_f h]; rfl
theorem csB_b {β : Bk} {T : Nat → Int32} {c : Int32} (e : c = 98) : csB β T c = ((bH β, cI (cbP β T) (bK β + 1) (bK β)), bC β, cI (cbP β T) (cpB (bN β) (7 * bK β) T 7) (bN β), bF β) := by
  unfold csB
  by_cases h : cbP β T
  · rw [cI_t ((cmP_b e).mpr h), cmB_b e, cI_t h, cI_t h]
  · rw [cI_f (fun z => h ((cmP_b e).mp z)), cI_f h, cI_f h]; rfl
theorem csB_d {β : Bk} {T : Nat → Int32} {c : Int32} (e : c = 102) : csB β T c = ((bH β, bK β), bC β, bN β, cI (0 ≤ T 0 ∧ T 0 < 4) (upd (bF β) (T 0).toNatClampNeg (T 1)) (bF β)) := by
  have hd : ¬ c = 98 ∧ ¬ c = 104 := ⟨by rw [e]; decide, by rw [e]; decide⟩
  unfold csB
  by_cases h : 0 ≤ T 0 ∧ T 0 < 4
  · rw [cI_t ((cmP_d hd).mpr h), cmB_d hd, cI_t h]
  · rw [cI_f (fun z => h ((cmP_d hd).mp z)), cI_f h]; rfl
set_option maxHeartbeats 4000000 in
set_option maxRecDepth 100000 in
theorem k_X11_at (l : Launch) (G : GP) (n : Nat) (ad : Nat → Nat) (σ : Nat → Nat → Int32) (i : Int32) (hn : n < 1000) : CT l G yX11_at cX11_at 2 (some .int) 0 [.ref (ad 0), .int i] (WA G n ad σ) (some (.int (atF (σ 0) n i))) (WA G n ad σ) := by
  refine x_meth "BetsOnBets" rfl (by decide +kernel) (by rfl) (Nat.le_of_ble_eq_true rfl) ?_
  intro pP eE sS mM args below meth cC A ls hC hr hkL hK hZ hA hH hl
  have hx := hC.1
  have hb := hC.2.1
  have hl : lv_has ls 2 [(0, .ref (ad 0)), (1, .int i)] := hl
  refine lv_aload_n hx hb dX11_at_0 rfl (lv_at hl 0 rfl) ?_
  refine lv_ifnull hx hb dX11_at_1 ?_
  refine lv_iload_n hx hb dX11_at_4 rfl (lv_at hl 1 rfl) ?_
  refine lv_if_lt (tgt := 20) hx hb dX11_at_5 (by decide) (fun c5 => ?_) (fun c5 => ?_)
  · refine lv_iconst (v := 0) hx hb dX11_at_20 (by decide) ?_
    exact x_iret hC hr hkL hH (by first | exact atF_1 c5 | exact atF_2 c11 | exact atF_3 c5 c11 ei_ (by omega)) rfl dX11_at_21
  · refine lv_iload_n hx hb dX11_at_8 rfl (lv_at hl 1 rfl) ?_
    refine lv_aload_n hx hb dX11_at_9 rfl (lv_at hl 0 rfl) ?_
    refine x_alen hC hK hH 0 rfl (v := (nI n)) rfl dX11_at_10 ?_
    refine lv_icmp_ge (tgt := 20) hx hb dX11_at_11 (by decide) (fun c11 => ?_) (fun c11 => ?_)
    · refine lv_iconst (v := 0) hx hb dX11_at_20 (by decide) ?_
      exact x_iret hC hr hkL hH (by first | exact atF_1 c5 | exact atF_2 c11 | exact atF_3 c5 c11 ei_ (by omega)) rfl dX11_at_21
    · obtain ⟨j_, hj_, ei_⟩ := ix_in hn c5 c11
      refine lv_aload_n hx hb dX11_at_14 rfl (lv_at hl 0 rfl) ?_
      refine lv_iload_n hx hb dX11_at_15 rfl (lv_at hl 1 rfl) ?_
      refine x_ialN (f := (σ 0)) hC hK hH 0 j_ rfl ei_ hj_ hn dX11_at_16 ?_
      refine lv_goto (tgt := 21) hx hb dX11_at_17 (by decide) ?_
      exact x_iret hC hr hkL hH (by first | exact atF_1 c5 | exact atF_2 c11 | exact atF_3 c5 c11 ei_ (by omega)) rfl dX11_at_21
set_option maxHeartbeats 4000000 in
set_option maxRecDepth 100000 in
theorem k_X11_put (l : Launch) (G : GP) (n : Nat) (ad : Nat → Nat) (σ : Nat → Nat → Int32) (i : Int32) (v : Int32) (hn : n < 1000) : CT l G yX11_put cX11_put 3 none 0 [.ref (ad 0), .int i, .int v] (WA G n ad σ) none (WA G n ad (ua σ 0 (putF (σ 0) n i v))) := by
  refine x_meth "BetsOnBets" rfl (by decide +kernel) (by rfl) (Nat.le_of_ble_eq_true rfl) ?_
  intro pP eE sS mM args below meth cC A ls hC hr hkL hK hZ hA hH hl
  have hx := hC.1
  have hb := hC.2.1
  have hl : lv_has ls 3 [(0, .ref (ad 0)), (1, .int i), (2, .int v)] := hl
  refine lv_aload_n hx hb dX11_put_0 rfl (lv_at hl 0 rfl) ?_
  refine lv_ifnull hx hb dX11_put_1 ?_
  refine lv_iload_n hx hb dX11_put_4 rfl (lv_at hl 1 rfl) ?_
  refine lv_if_lt (tgt := 18) hx hb dX11_put_5 (by decide) (fun c5 => ?_) (fun c5 => ?_)
  · exact x_vret hC hr hkL hH ((congrArg (fun z_ : Nat → Int32 => WA G n ad (ua σ 0 z_)) (by first | exact putF_1 c5 | exact putF_2 c11 | exact putF_3 c5 c11 ei_ (by omega) : (putF (σ 0) n i v) = (σ 0))).trans (show WA G n ad (ua σ 0 (σ 0)) = WA G n ad σ from rfl)) dX11_put_18
  · refine lv_iload_n hx hb dX11_put_8 rfl (lv_at hl 1 rfl) ?_
    refine lv_aload_n hx hb dX11_put_9 rfl (lv_at hl 0 rfl) ?_
    refine x_alen hC hK hH 0 rfl (v := (nI n)) rfl dX11_put_10 ?_
    refine lv_icmp_ge (tgt := 18) hx hb dX11_put_11 (by decide) (fun c11 => ?_) (fun c11 => ?_)
    · exact x_vret hC hr hkL hH ((congrArg (fun z_ : Nat → Int32 => WA G n ad (ua σ 0 z_)) (by first | exact putF_1 c5 | exact putF_2 c11 | exact putF_3 c5 c11 ei_ (by omega) : (putF (σ 0) n i v) = (σ 0))).trans (show WA G n ad (ua σ 0 (σ 0)) = WA G n ad σ from rfl)) dX11_put_18
    · obtain ⟨j_, hj_, ei_⟩ := ix_in hn c5 c11
      refine lv_aload_n hx hb dX11_put_14 rfl (lv_at hl 0 rfl) ?_
      refine lv_iload_n hx hb dX11_put_15 rfl (lv_at hl 1 rfl) ?_
      refine lv_iload_n hx hb dX11_put_16 rfl (lv_at hl 2 rfl) ?_
      refine x_iasN (f := (σ 0)) (ws' := WA G n ad (ua σ 0 (upd (σ 0) j_ v))) hC hK hH 0 j_ rfl ei_ hj_ hn dX11_put_17 rfl (fun H locs hH => ?_)
      exact x_vret hC hr hkL hH (congrArg (fun z_ : Nat → Int32 => WA G n ad (ua σ 0 z_)) (by first | exact putF_1 c5 | exact putF_2 c11 | exact putF_3 c5 c11 ei_ (by omega) : (putF (σ 0) n i v) = (upd (σ 0) j_ v))) dX11_put_18
set_option maxHeartbeats 4000000 in
set_option maxRecDepth 100000 in
theorem k_X11_copy (l : Launch) (G : GP) (n : Nat) (ad : Nat → Nat) (σ : Nat → Nat → Int32) (hn : n < 1000) : CT l G yX11_copy cX11_copy 3 none 0 [.ref (ad 0), .ref (ad 1)] (WD2 G n ad σ) none (WD2 G n ad (ua σ 1 (σ 0))) := by
  refine x_meth "BetsOnBets" rfl (by decide +kernel) (by rfl) (Nat.le_of_ble_eq_true rfl) ?_
  intro pP eE sS mM args below meth cC A ls hC hr hkL hK hZ hA hH hl
  have hx := hC.1
  have hb := hC.2.1
  have hl : lv_has ls 3 [(0, .ref (ad 0)), (1, .ref (ad 1))] := hl
  refine lv_aload_n hx hb dX11_copy_0 rfl (lv_at hl 0 rfl) ?_
  refine lv_ifnull hx hb dX11_copy_1 ?_
  refine lv_aload_n hx hb dX11_copy_4 rfl (lv_at hl 1 rfl) ?_
  refine lv_ifnonnull (tgt := 9) hx hb dX11_copy_5 (by decide) ?_
  refine lv_iconst (v := 0) hx hb dX11_copy_9 (by decide) ?_
  refine lv_istore_n (lv' := [(2, .int 0), (0, .ref (ad 0)), (1, .ref (ad 1))]) hx hb dX11_copy_10 rfl hl (by decide) rfl (fun ls hl => ?_)
  refine x_loop (G := G) (A := A) (H0 := sS.heap) (nL := 3) (α := Nat) (fun q_ => n - q_) (fun q_ => q_ ≤ n) (fun q_ => WD2 G n ad (ua σ 1 (cpyF (σ 0) (σ 1) q_))) (fun q_ => [(0, .ref (ad 0)), (1, .ref (ad 1)), (2, .int (nI q_))]) ?_ 0 (show 0 ≤ n from (Nat.zero_le _)) ?_ ?_
  · rintro i hi_i ih_i H locs ls hH hl
    replace hi_i : i ≤ n := hi_i
    replace hH : Hx G A (WD2 G n ad (ua σ 1 (cpyF (σ 0) (σ 1) i))) sS.heap H locs := hH
    replace hl : lv_has ls 3 [(0, .ref (ad 0)), (1, .ref (ad 1)), (2, .int (nI i))] := hl
    refine lv_iload_n hx hb dX11_copy_11 rfl (lv_at hl 2 rfl) ?_
    refine lv_aload_n hx hb dX11_copy_12 rfl (lv_at hl 1 rfl) ?_
    refine x_alen hC hK hH 1 rfl (v := (nI n)) rfl dX11_copy_13 ?_
    refine lv_icmp_ge (tgt := 35) hx hb dX11_copy_14 (by decide) (fun c14 => ?_) (fun c14 => ?_)
    · have ge_i := lp_out (n := n) rfl (by omega) (by omega) c14
      have eq_i : i = n := by omega
      have hH : Hx G A (WD2 G n ad (ua σ 1 (σ 0))) sS.heap H locs := hx_arr 1 hH rfl (fun j hj => cpyF_in _ _ (by omega)) rfl
      exact x_vret hC hr hkL hH rfl dX11_copy_35
    · have lt_i := lp_in (n := n) rfl (by omega) (by omega) c14
      refine lv_iload_n hx hb dX11_copy_17 rfl (lv_at hl 2 rfl) ?_
      refine lv_aload_n hx hb dX11_copy_18 rfl (lv_at hl 0 rfl) ?_
      refine x_alen hC hK hH 0 rfl (v := (nI n)) rfl dX11_copy_19 ?_
      refine lv_icmp_ge (tgt := 35) hx hb dX11_copy_20 (by decide) (fun c20 => ?_) (fun c20 => ?_)
      · exact absurd (lp_out (n := n) rfl (by omega) (by omega) c20) (by omega)
      refine lv_aload_n hx hb dX11_copy_23 rfl (lv_at hl 1 rfl) ?_
      refine lv_iload_n hx hb dX11_copy_24 rfl (lv_at hl 2 rfl) ?_
      refine lv_aload_n hx hb dX11_copy_25 rfl (lv_at hl 0 rfl) ?_
      refine lv_iload_n hx hb dX11_copy_26 rfl (lv_at hl 2 rfl) ?_
      refine x_ialN (f := (σ 0)) hC hK hH 0 i rfl rfl (by omega) hn dX11_copy_27 ?_
      refine x_iasN (f := (cpyF (σ 0) (σ 1) i)) (ws' := WD2 G n ad (ua σ 1 (upd (cpyF (σ 0) (σ 1) i) i ((σ 0) i)))) hC hK hH 1 i rfl rfl (by omega) hn dX11_copy_28 rfl (fun H locs hH => ?_)
      refine lv_iinc (v := ((nI i) + 1)) (lv' := [(2, .int ((nI i) + 1)), (0, .ref (ad 0)), (1, .ref (ad 1))]) hx hb dX11_copy_29 hl (k := 2) rfl rfl (by decide) rfl (fun ls hl => ?_)
      refine lv_goto (tgt := 11) hx hb dX11_copy_32 (by decide) ?_
      exact ih_i (i + 1) (show (i + 1) ≤ n from (by omega)) (show n - (i + 1) < n - i from (by omega)) _ _ _ (hH.eq (congrArg (fun z_ : Nat → Int32 => WD2 G n ad (ua σ 1 z_)) (by exact cpyF_s _ _ _ : (upd (cpyF (σ 0) (σ 1) i) i ((σ 0) i)) = (cpyF (σ 0) (σ 1) (i + 1))))) (lv_eq (lv_sub hl [1, 2, 0] rfl) (lc_s (lc_s (lc_i (by exact nI_1 _ : ((nI i) + 1) = (nI (i + 1))) rfl))))
  · exact hH.eq (Eq.trans (show WD2 G n ad σ = WD2 G n ad (ua σ 1 (σ 1)) from rfl) (congrArg (fun z_ : Nat → Int32 => WD2 G n ad (ua σ 1 z_)) (by exact (cpyF_0 _ _).symm : (σ 1) = (cpyF (σ 0) (σ 1) 0))))
  · exact lv_eq (lv_sub hl [1, 2, 0] rfl) (lc_s (lc_s (lc_i (by rfl : 0 = (nI 0)) rfl)))
set_option maxHeartbeats 4000000 in
set_option maxRecDepth 100000 in
theorem k_X11_has (l : Launch) (G : GP) (ad : Nat → Nat) (σ : Nat → Nat → Int32) (x : Int32) (b : Int32) : CT l G yX11_has cX11_has 2 (some .boolean) 0 [.int x, .int b] (WE G ad σ) (some (.int (bI (tb x b)))) (WE G ad σ) := by
  refine x_meth "BetsOnBets" rfl (by decide +kernel) (by rfl) (Nat.le_of_ble_eq_true rfl) ?_
  intro pP eE sS mM args below meth cC A ls hC hr hkL hK hZ hA hH hl
  have hx := hC.1
  have hb := hC.2.1
  have hl : lv_has ls 2 [(0, .int x), (1, .int b)] := hl
  refine lv_iload_n hx hb dX11_has_0 rfl (lv_at hl 0 rfl) ?_
  refine lv_iload_n hx hb dX11_has_1 rfl (lv_at hl 1 rfl) ?_
  refine lv_ishr hx hb dX11_has_2 ?_
  refine lv_iconst (v := 1) hx hb dX11_has_3 (by decide) ?_
  refine lv_iand hx hb dX11_has_4 ?_
  refine lv_iconst (v := 1) hx hb dX11_has_5 (by decide) ?_
  refine lv_icmp_ne (tgt := 13) hx hb dX11_has_6 (by decide) (fun c6 => ?_) (fun c6 => ?_)
  · refine lv_iconst (v := 0) hx hb dX11_has_13 (by decide) ?_
    exact x_zret hC hr hkL hH nar_bI (bI_f (by exact c6)) rfl dX11_has_14
  · refine lv_iconst (v := 1) hx hb dX11_has_9 (by decide) ?_
    refine lv_goto (tgt := 14) hx hb dX11_has_10 (by decide) ?_
    exact x_zret hC hr hkL hH nar_bI (bI_t (by exact c6)) rfl dX11_has_14
set_option maxHeartbeats 4000000 in
set_option maxRecDepth 100000 in
theorem k_X11_isPerson (l : Launch) (G : GP) (ad : Nat → Nat) (σ : Nat → Nat → Int32) (p : Int32) : CT l G yX11_isPerson cX11_isPerson 1 (some .boolean) 0 [.int p] (WE G ad σ) (some (.int (bI (0 ≤ p ∧ p < 4)))) (WE G ad σ) := by
  refine x_meth "BetsOnBets" rfl (by decide +kernel) (by rfl) (Nat.le_of_ble_eq_true rfl) ?_
  intro pP eE sS mM args below meth cC A ls hC hr hkL hK hZ hA hH hl
  have hx := hC.1
  have hb := hC.2.1
  have hl : lv_has ls 1 [(0, .int p)] := hl
  refine lv_iload_n hx hb dX11_isPerson_0 rfl (lv_at hl 0 rfl) ?_
  refine lv_if_lt (tgt := 13) hx hb dX11_isPerson_1 (by decide) (fun c1 => ?_) (fun c1 => ?_)
  · refine lv_iconst (v := 0) hx hb dX11_isPerson_13 (by decide) ?_
    exact x_zret hC hr hkL hH nar_bI (bI_f (by first | exact fun z => absurd z.1 (Int32.not_le.mpr c1) | exact fun z => absurd z.2 (Int32.not_lt.mpr c6))) rfl dX11_isPerson_14
  · refine lv_iload_n hx hb dX11_isPerson_4 rfl (lv_at hl 0 rfl) ?_
    refine lv_iconst (v := 4) hx hb dX11_isPerson_5 (by decide) ?_
    refine lv_icmp_ge (tgt := 13) hx hb dX11_isPerson_6 (by decide) (fun c6 => ?_) (fun c6 => ?_)
    · refine lv_iconst (v := 0) hx hb dX11_isPerson_13 (by decide) ?_
      exact x_zret hC hr hkL hH nar_bI (bI_f (by first | exact fun z => absurd z.1 (Int32.not_le.mpr c1) | exact fun z => absurd z.2 (Int32.not_lt.mpr c6))) rfl dX11_isPerson_14
    · refine lv_iconst (v := 1) hx hb dX11_isPerson_9 (by decide) ?_
      refine lv_goto (tgt := 14) hx hb dX11_isPerson_10 (by decide) ?_
      exact x_zret hC hr hkL hH nar_bI (bI_t (by exact ⟨Int32.not_lt.mp c1, Int32.not_le.mp c6⟩)) rfl dX11_isPerson_14
set_option maxHeartbeats 4000000 in
set_option maxRecDepth 100000 in
theorem k_X11_drawBy (l : Launch) (G : GP) (ad : Nat → Nat) (σ : Nat → Nat → Int32) (s : Int32) : CT l G yX11_drawBy cX11_drawBy 1 (some .int) 0 [.int s] (WE G ad σ) (some (.int (drw s))) (WE G ad σ) := by
  refine x_meth "BetsOnBets" rfl (by decide +kernel) (by rfl) (Nat.le_of_ble_eq_true rfl) ?_
  intro pP eE sS mM args below meth cC A ls hC hr hkL hK hZ hA hH hl
  have hx := hC.1
  have hb := hC.2.1
  have hl : lv_has ls 1 [(0, .int s)] := hl
  refine lv_iload_n hx hb dX11_drawBy_0 rfl (lv_at hl 0 rfl) ?_
  refine lv_ldc (v := 2147483647) hx hb hC.2.2.2.1 (hC.2.2.2.2 _ wd_741) dX11_drawBy_1 ?_
  refine lv_iand hx hb dX11_drawBy_3 ?_
  refine lv_sipush (v := 256) hx hb dX11_drawBy_4 (by decide) ?_
  refine lv_idiv hx hb dX11_drawBy_7 (by decide) ?_
  refine lv_bipush (v := 100) hx hb dX11_drawBy_8 (by decide) ?_
  refine lv_irem hx hb dX11_drawBy_10 (by decide) ?_
  exact x_iret hC hr hkL hH (by first | rfl | simp) rfl dX11_drawBy_11
set_option maxHeartbeats 4000000 in
set_option maxRecDepth 100000 in
theorem k_X9_isFull (l : Launch) (G : GP) (n : Nat) (ad : Nat → Nat) (σ : Nat → Nat → Int32) (z : Nat) (hz : (σ 0 1) = nI z) (hn : n < 1000) (hzn : z ≤ n) : CT l G yX9_isFull cX9_isFull 1 (some .boolean) 0 [.ref (ad 0)] (WRW G n ad σ) (some (.int (bI (n ≤ z)))) (WRW G n ad σ) := by
  refine x_meth "BetsOnBets$Row" rfl (by decide +kernel) (by rfl) (Nat.le_of_ble_eq_true rfl) ?_
  intro pP eE sS mM args below meth cC A ls hC hr hkL hK hZ hA hH hl
  have hx := hC.1
  have hb := hC.2.1
  have hl : lv_has ls 1 [(0, .ref (ad 0))] := hl
  refine lv_aload_n hx hb dX9_isFull_0 rfl (lv_at hl 0 rfl) ?_
  refine gf_X9_7 (v := .int (σ 0 1)) hC hK hH 0 rfl rfl dX9_isFull_1 ?_
  refine x_topE (y := (nI z)) hz ?_
  refine lv_aload_n hx hb dX9_isFull_4 rfl (lv_at hl 0 rfl) ?_
  refine gf_X9_19 (v := .ref (ad 1)) hC hK hH 0 rfl rfl dX9_isFull_5 ?_
  refine x_alen hC hK hH 1 rfl (v := (nI n)) rfl dX9_isFull_8 ?_
  refine lv_icmp_lt (tgt := 16) hx hb dX9_isFull_9 (by decide) (fun c9 => ?_) (fun c9 => ?_)
  · refine lv_iconst (v := 0) hx hb dX9_isFull_16 (by decide) ?_
    exact x_zret hC hr hkL hH nar_bI (bI_f (by have := (nI_ltI (a := z) (b := n) (by omega) (by omega)).mp c9; omega)) rfl dX9_isFull_17
  · refine lv_iconst (v := 1) hx hb dX9_isFull_12 (by decide) ?_
    refine lv_goto (tgt := 17) hx hb dX9_isFull_13 (by decide) ?_
    exact x_zret hC hr hkL hH nar_bI (bI_t (by have := mt (nI_ltI (a := z) (b := n) (by omega) (by omega)).mpr c9; omega)) rfl dX9_isFull_17
set_option maxHeartbeats 4000000 in
set_option maxRecDepth 100000 in
theorem k_X9_add (l : Launch) (G : GP) (n : Nat) (ad : Nat → Nat) (σ : Nat → Nat → Int32) (v : Int32) (z : Nat) (hz : (σ 0 1) = nI z) (hn : n < 1000) (hzn : z < n) : CT l G yX9_add cX9_add 2 none 1 [.ref (ad 0), .int v] (WRW G n ad σ) none (WRW G n ad (ua (ua σ 0 (upd (σ 0) 1 (nI (z + 1)))) 1 (upd (σ 1) z v))) := by
  refine x_meth "BetsOnBets$Row" rfl (by decide +kernel) (by rfl) (Nat.le_of_ble_eq_true rfl) ?_
  intro pP eE sS mM args below meth cC A ls hC hr hkL hK hZ hA hH hl
  have hx := hC.1
  have hb := hC.2.1
  have hl : lv_has ls 2 [(0, .ref (ad 0)), (1, .int v)] := hl
  refine lv_aload_n hx hb dX9_add_0 rfl (lv_at hl 0 rfl) ?_
  refine x_callVA (ws' := WRW G n ad σ) (As := []) (rest := []) (st' := [.int (bI (n ≤ z))]) hC hK hZ hA hl.1 hH (k_X9_isFull l G n ad σ z hz hn (by omega)) lk_X9_23 rfl 0 8 rfl rfl rfl ⟨Nat.le_of_ble_eq_true rfl, Nat.le_of_ble_eq_true rfl⟩ ⟨Nat.le_refl _, Nat.le_refl _⟩ (Nat.le_of_ble_eq_true rfl) rfl dX9_add_1 (fun H locs hH => ?_)
  refine x_bne (tgt := 29) hC dX9_add_4 (by decide) (fun c4 => ?_) (fun c4 => ?_)
  · exact absurd c4 (by omega)
  refine lv_aload_n hx hb dX9_add_7 rfl (lv_at hl 0 rfl) ?_
  refine gf_X9_19 (v := .ref (ad 1)) hC hK hH 0 rfl rfl dX9_add_8 ?_
  refine lv_aload_n hx hb dX9_add_11 rfl (lv_at hl 0 rfl) ?_
  refine gf_X9_7 (v := .int (σ 0 1)) hC hK hH 0 rfl rfl dX9_add_12 ?_
  refine x_topE (y := (nI z)) hz ?_
  refine lv_iload_n hx hb dX9_add_15 rfl (lv_at hl 1 rfl) ?_
  refine x_callN (ws' := WRW G n ad (ua σ 1 (putF (σ 1) n (nI z) v))) (As := [.ref (ad 1), .int (nI z), .int v]) (rest := []) (st' := []) hC hK hZ hA hl.1 hH (k_X11_put l G n (pk ad [1]) (pk σ [1]) (nI z) v hn) lk_X9_27 [1] rfl rfl rfl rfl ⟨Nat.le_of_ble_eq_true rfl, Nat.le_of_ble_eq_true rfl⟩ ⟨Nat.le_refl _, Nat.le_refl _⟩ (Nat.le_of_ble_eq_true rfl) rfl dX9_add_16 (fun H locs hH => ?_)
  replace hH : Hx G A (WRW G n ad (ua σ 1 (upd (σ 1) z v))) sS.heap H locs := hH.eq (congrArg (fun z_ : Nat → Int32 => WRW G n ad (ua σ 1 z_)) (by exact putF_in rfl hzn hn : (putF (σ 1) n (nI z) v) = (upd (σ 1) z v)))
  refine lv_aload_n hx hb dX9_add_19 rfl (lv_at hl 0 rfl) ?_
  refine lv_dup hx hb dX9_add_20 rfl ?_
  refine gf_X9_7 (v := .int (σ 0 1)) hC hK hH 0 rfl rfl dX9_add_21 ?_
  refine x_topE (y := (nI z)) hz ?_
  refine lv_iconst (v := 1) hx hb dX9_add_24 (by decide) ?_
  refine lv_iadd hx hb dX9_add_25 ?_
  refine x_topE (y := (nI (z + 1))) (nI_1 _) ?_
  refine pf_X9_7 (ws' := WRW G n ad (ua (ua σ 0 (upd (σ 0) 1 (nI (z + 1)))) 1 (upd (σ 1) z v))) hC hK hH 0 rfl rfl rfl (Nat.le_of_ble_eq_true rfl) dX9_add_26 rfl (fun H locs hH => ?_)
  exact x_vret hC hr hkL hH rfl dX9_add_29
set_option maxHeartbeats 4000000 in
set_option maxRecDepth 100000 in
theorem k_X9_get (l : Launch) (G : GP) (n : Nat) (ad : Nat → Nat) (σ : Nat → Nat → Int32) (i : Int32) (hn : n < 1000) : CT l G yX9_get cX9_get 2 (some .int) 0 [.ref (ad 0), .int i] (WRW G n ad σ) (some (.int (atF (σ 1) n i))) (WRW G n ad σ) := by
  refine x_meth "BetsOnBets$Row" rfl (by decide +kernel) (by rfl) (Nat.le_of_ble_eq_true rfl) ?_
  intro pP eE sS mM args below meth cC A ls hC hr hkL hK hZ hA hH hl
  have hx := hC.1
  have hb := hC.2.1
  have hl : lv_has ls 2 [(0, .ref (ad 0)), (1, .int i)] := hl
  refine lv_iload_n hx hb dX9_get_0 rfl (lv_at hl 1 rfl) ?_
  refine lv_if_lt (tgt := 22) hx hb dX9_get_1 (by decide) (fun c1 => ?_) (fun c1 => ?_)
  · refine lv_iconst (v := 0) hx hb dX9_get_22 (by decide) ?_
    exact x_iret hC hr hkL hH (by first | exact atF_1 c1 | exact atF_2 c10 | exact atF_3 c1 c10 ei_ (by omega)) rfl dX9_get_23
  · refine lv_iload_n hx hb dX9_get_4 rfl (lv_at hl 1 rfl) ?_
    refine lv_aload_n hx hb dX9_get_5 rfl (lv_at hl 0 rfl) ?_
    refine gf_X9_19 (v := .ref (ad 1)) hC hK hH 0 rfl rfl dX9_get_6 ?_
    refine x_alen hC hK hH 1 rfl (v := (nI n)) rfl dX9_get_9 ?_
    refine lv_icmp_ge (tgt := 22) hx hb dX9_get_10 (by decide) (fun c10 => ?_) (fun c10 => ?_)
    · refine lv_iconst (v := 0) hx hb dX9_get_22 (by decide) ?_
      exact x_iret hC hr hkL hH (by first | exact atF_1 c1 | exact atF_2 c10 | exact atF_3 c1 c10 ei_ (by omega)) rfl dX9_get_23
    · obtain ⟨j_, hj_, ei_⟩ := ix_in hn c1 c10
      refine lv_aload_n hx hb dX9_get_13 rfl (lv_at hl 0 rfl) ?_
      refine gf_X9_19 (v := .ref (ad 1)) hC hK hH 0 rfl rfl dX9_get_14 ?_
      refine lv_iload_n hx hb dX9_get_17 rfl (lv_at hl 1 rfl) ?_
      refine x_ialN (f := (σ 1)) hC hK hH 1 j_ rfl ei_ hj_ hn dX9_get_18 ?_
      refine lv_goto (tgt := 23) hx hb dX9_get_19 (by decide) ?_
      exact x_iret hC hr hkL hH (by first | exact atF_1 c1 | exact atF_2 c10 | exact atF_3 c1 c10 ei_ (by omega)) rfl dX9_get_23
set_option maxHeartbeats 4000000 in
set_option maxRecDepth 100000 in
theorem k_X9_clear (l : Launch) (G : GP) (n : Nat) (ad : Nat → Nat) (σ : Nat → Nat → Int32) : CT l G yX9_clear cX9_clear 1 none 0 [.ref (ad 0)] (WRW G n ad σ) none (WRW G n ad (ua σ 0 (upd (σ 0) 1 0))) := by
  refine x_meth "BetsOnBets$Row" rfl (by decide +kernel) (by rfl) (Nat.le_of_ble_eq_true rfl) ?_
  intro pP eE sS mM args below meth cC A ls hC hr hkL hK hZ hA hH hl
  have hx := hC.1
  have hb := hC.2.1
  have hl : lv_has ls 1 [(0, .ref (ad 0))] := hl
  refine lv_aload_n hx hb dX9_clear_0 rfl (lv_at hl 0 rfl) ?_
  refine lv_iconst (v := 0) hx hb dX9_clear_1 (by decide) ?_
  refine pf_X9_7 (ws' := WRW G n ad (ua σ 0 (upd (σ 0) 1 0))) hC hK hH 0 rfl rfl rfl (Nat.le_of_ble_eq_true rfl) dX9_clear_2 rfl (fun H locs hH => ?_)
  exact x_vret hC hr hkL hH rfl dX9_clear_5
set_option maxHeartbeats 4000000 in
set_option maxRecDepth 100000 in
theorem k_X2_hasBet (l : Launch) (G : GP) (ad : Nat → Nat) (σ : Nat → Nat → Int32) (b : Int32) (h : Nat) (k : Nat) (hb3 : (σ 0 3) = nI h) (hb4 : (σ 0 4) = nI k) (hh4 : h ≤ 4) (hk6 : k ≤ 6) : CT l G yX2_hasBet cX2_hasBet 2 (some .boolean) 0 [.ref (ad 0), .int b] (WBK G ad σ) (some (.int (bI (inb b k)))) (WBK G ad σ) := by
  refine x_meth "BetsOnBets$Book" rfl (by decide +kernel) (by rfl) (Nat.le_of_ble_eq_true rfl) ?_
  intro pP eE sS mM args below meth cC A ls hC hr hkL hK hZ hA hH hl
  have hx := hC.1
  have hb := hC.2.1
  have hl : lv_has ls 2 [(0, .ref (ad 0)), (1, .int b)] := hl
  have pwh := pw4 hh4
  have pwk := pw6 hk6
  refine lv_iload_n hx hb dX2_hasBet_0 rfl (lv_at hl 1 rfl) ?_
  refine lv_if_lt (tgt := 16) hx hb dX2_hasBet_1 (by decide) (fun c1 => ?_) (fun c1 => ?_)
  · refine lv_iconst (v := 0) hx hb dX2_hasBet_16 (by decide) ?_
    exact x_zret hC hr hkL hH nar_bI (bI_f (by first | exact inb_f1 c1 | exact inb_f2 c9)) rfl dX2_hasBet_17
  · refine lv_iload_n hx hb dX2_hasBet_4 rfl (lv_at hl 1 rfl) ?_
    refine lv_aload_n hx hb dX2_hasBet_5 rfl (lv_at hl 0 rfl) ?_
    refine gf_X2_25 (v := .int (σ 0 4)) hC hK hH 0 rfl rfl dX2_hasBet_6 ?_
    refine x_topE (y := (nI k)) hb4 ?_
    refine lv_icmp_ge (tgt := 16) hx hb dX2_hasBet_9 (by decide) (fun c9 => ?_) (fun c9 => ?_)
    · refine lv_iconst (v := 0) hx hb dX2_hasBet_16 (by decide) ?_
      exact x_zret hC hr hkL hH nar_bI (bI_f (by first | exact inb_f1 c1 | exact inb_f2 c9)) rfl dX2_hasBet_17
    · refine lv_iconst (v := 1) hx hb dX2_hasBet_12 (by decide) ?_
      refine lv_goto (tgt := 17) hx hb dX2_hasBet_13 (by decide) ?_
      exact x_zret hC hr hkL hH nar_bI (bI_t (by exact inb_t c1 c9)) rfl dX2_hasBet_17
set_option maxHeartbeats 4000000 in
set_option maxRecDepth 100000 in
theorem k_X2_ends (l : Launch) (G : GP) (ad : Nat → Nat) (σ : Nat → Nat → Int32) (h : Nat) (k : Nat) (hb3 : (σ 0 3) = nI h) (hb4 : (σ 0 4) = nI k) (hh4 : h ≤ 4) (hk6 : k ≤ 6) : CT l G yX2_ends cX2_ends 1 (some .int) 0 [.ref (ad 0)] (WBK G ad σ) (some (.int (nI (2 ^ h)))) (WBK G ad σ) := by
  refine x_meth "BetsOnBets$Book" rfl (by decide +kernel) (by rfl) (Nat.le_of_ble_eq_true rfl) ?_
  intro pP eE sS mM args below meth cC A ls hC hr hkL hK hZ hA hH hl
  have hx := hC.1
  have hb := hC.2.1
  have hl : lv_has ls 1 [(0, .ref (ad 0))] := hl
  have pwh := pw4 hh4
  have pwk := pw6 hk6
  refine lv_iconst (v := 1) hx hb dX2_ends_0 (by decide) ?_
  refine lv_aload_n hx hb dX2_ends_1 rfl (lv_at hl 0 rfl) ?_
  refine gf_X2_21 (v := .int (σ 0 3)) hC hK hH 0 rfl rfl dX2_ends_2 ?_
  refine x_topE (y := (nI h)) hb3 ?_
  refine lv_ishl hx hb dX2_ends_5 ?_
  refine x_topE (y := (nI (2 ^ h))) (shB (by omega)) ?_
  exact x_iret hC hr hkL hH rfl rfl dX2_ends_6
set_option maxHeartbeats 4000000 in
set_option maxRecDepth 100000 in
theorem k_X2_hasEnd (l : Launch) (G : GP) (ad : Nat → Nat) (σ : Nat → Nat → Int32) (e : Int32) (h : Nat) (k : Nat) (hb3 : (σ 0 3) = nI h) (hb4 : (σ 0 4) = nI k) (hh4 : h ≤ 4) (hk6 : k ≤ 6) : CT l G yX2_hasEnd cX2_hasEnd 2 (some .boolean) 1 [.ref (ad 0), .int e] (WBK G ad σ) (some (.int (bI (inb e (2 ^ h))))) (WBK G ad σ) := by
  refine x_meth "BetsOnBets$Book" rfl (by decide +kernel) (by rfl) (Nat.le_of_ble_eq_true rfl) ?_
  intro pP eE sS mM args below meth cC A ls hC hr hkL hK hZ hA hH hl
  have hx := hC.1
  have hb := hC.2.1
  have hl : lv_has ls 2 [(0, .ref (ad 0)), (1, .int e)] := hl
  have pwh := pw4 hh4
  have pwk := pw6 hk6
  refine lv_iload_n hx hb dX2_hasEnd_0 rfl (lv_at hl 1 rfl) ?_
  refine lv_if_lt (tgt := 16) hx hb dX2_hasEnd_1 (by decide) (fun c1 => ?_) (fun c1 => ?_)
  · refine lv_iconst (v := 0) hx hb dX2_hasEnd_16 (by decide) ?_
    exact x_zret hC hr hkL hH nar_bI (bI_f (by first | exact inb_f1 c1 | exact inb_f2 c9)) rfl dX2_hasEnd_17
  · refine lv_iload_n hx hb dX2_hasEnd_4 rfl (lv_at hl 1 rfl) ?_
    refine lv_aload_n hx hb dX2_hasEnd_5 rfl (lv_at hl 0 rfl) ?_
    refine x_callVA (ws' := WBK G ad σ) (As := []) (rest := [.int e]) (st' := [.int (nI (2 ^ h)), .int e]) hC hK hZ hA hl.1 hH (k_X2_ends l G ad σ h k hb3 hb4 hh4 hk6) lk_X2_71 rfl 0 1 rfl rfl rfl ⟨Nat.le_of_ble_eq_true rfl, Nat.le_of_ble_eq_true rfl⟩ ⟨Nat.le_refl _, Nat.le_refl _⟩ (Nat.le_of_ble_eq_true rfl) rfl dX2_hasEnd_6 (fun H locs hH => ?_)
    refine lv_icmp_ge (tgt := 16) hx hb dX2_hasEnd_9 (by decide) (fun c9 => ?_) (fun c9 => ?_)
    · refine lv_iconst (v := 0) hx hb dX2_hasEnd_16 (by decide) ?_
      exact x_zret hC hr hkL hH nar_bI (bI_f (by first | exact inb_f1 c1 | exact inb_f2 c9)) rfl dX2_hasEnd_17
    · refine lv_iconst (v := 1) hx hb dX2_hasEnd_12 (by decide) ?_
      refine lv_goto (tgt := 17) hx hb dX2_hasEnd_13 (by decide) ?_
      exact x_zret hC hr hkL hH nar_bI (bI_t (by exact inb_t c1 c9)) rfl dX2_hasEnd_17
set_option maxHeartbeats 4000000 in
set_option maxRecDepth 100000 in
theorem k_X2_chanceOf (l : Launch) (G : GP) (ad : Nat → Nat) (σ : Nat → Nat → Int32) (i : Int32) (j : Nat) (hi : i = nI j) (hj : j < 4) : CT l G yX2_chanceOf cX2_chanceOf 2 (some .int) 1 [.ref (ad 0), .int i] (WBK G ad σ) (some (.int ((σ 1) j))) (WBK G ad σ) := by
  refine x_meth "BetsOnBets$Book" rfl (by decide +kernel) (by rfl) (Nat.le_of_ble_eq_true rfl) ?_
  intro pP eE sS mM args below meth cC A ls hC hr hkL hK hZ hA hH hl
  have hx := hC.1
  have hb := hC.2.1
  have hl : lv_has ls 2 [(0, .ref (ad 0)), (1, .int i)] := hl
  refine lv_aload_n hx hb dX2_chanceOf_0 rfl (lv_at hl 0 rfl) ?_
  refine gf_X2_9 (v := .ref (ad 1)) hC hK hH 0 rfl rfl dX2_chanceOf_1 ?_
  refine lv_iload_n hx hb dX2_chanceOf_4 rfl (lv_at hl 1 rfl) ?_
  refine x_callN (ws' := WBK G ad σ) (As := [.ref (ad 1), .int i]) (rest := []) (st' := [.int (atF (σ 1) 4 i)]) hC hK hZ hA hl.1 hH (k_X11_at l G 4 (pk ad [1]) (pk σ [1]) i (by decide)) lk_X2_36 [1] rfl rfl rfl rfl ⟨Nat.le_of_ble_eq_true rfl, Nat.le_of_ble_eq_true rfl⟩ ⟨Nat.le_refl _, Nat.le_refl _⟩ (Nat.le_of_ble_eq_true rfl) rfl dX2_chanceOf_5 (fun H locs hH => ?_)
  exact x_iret hC hr hkL hH (by exact (atF_in hi hj (by decide)).symm) rfl dX2_chanceOf_8
set_option maxHeartbeats 4000000 in
set_option maxRecDepth 100000 in
theorem k_X2_fundOf (l : Launch) (G : GP) (ad : Nat → Nat) (σ : Nat → Nat → Int32) (i : Int32) (j : Nat) (hi : i = nI j) (hj : j < 4) : CT l G yX2_fundOf cX2_fundOf 2 (some .int) 1 [.ref (ad 0), .int i] (WBK G ad σ) (some (.int ((σ 3) j))) (WBK G ad σ) := by
  refine x_meth "BetsOnBets$Book" rfl (by decide +kernel) (by rfl) (Nat.le_of_ble_eq_true rfl) ?_
  intro pP eE sS mM args below meth cC A ls hC hr hkL hK hZ hA hH hl
  have hx := hC.1
  have hb := hC.2.1
  have hl : lv_has ls 2 [(0, .ref (ad 0)), (1, .int i)] := hl
  refine lv_aload_n hx hb dX2_fundOf_0 rfl (lv_at hl 0 rfl) ?_
  refine gf_X2_18 (v := .ref (ad 3)) hC hK hH 0 rfl rfl dX2_fundOf_1 ?_
  refine lv_iload_n hx hb dX2_fundOf_4 rfl (lv_at hl 1 rfl) ?_
  refine x_callN (ws' := WBK G ad σ) (As := [.ref (ad 3), .int i]) (rest := []) (st' := [.int (atF (σ 3) 4 i)]) hC hK hZ hA hl.1 hH (k_X11_at l G 4 (pk ad [3]) (pk σ [3]) i (by decide)) lk_X2_36 [3] rfl rfl rfl rfl ⟨Nat.le_of_ble_eq_true rfl, Nat.le_of_ble_eq_true rfl⟩ ⟨Nat.le_refl _, Nat.le_refl _⟩ (Nat.le_of_ble_eq_true rfl) rfl dX2_fundOf_5 (fun H locs hH => ?_)
  exact x_iret hC hr hkL hH (by exact (atF_in hi hj (by decide)).symm) rfl dX2_fundOf_8
set_option maxHeartbeats 4000000 in
set_option maxRecDepth 100000 in
theorem k_X2_changeFund (l : Launch) (G : GP) (ad : Nat → Nat) (σ : Nat → Nat → Int32) (i : Int32) (v : Int32) (j : Nat) (hi : i = nI j) (hj : j < 4) : CT l G yX2_changeFund cX2_changeFund 3 none 1 [.ref (ad 0), .int i, .int v] (WBK G ad σ) none (WBK G ad (ua σ 3 (upd (σ 3) j v))) := by
  refine x_meth "BetsOnBets$Book" rfl (by decide +kernel) (by rfl) (Nat.le_of_ble_eq_true rfl) ?_
  intro pP eE sS mM args below meth cC A ls hC hr hkL hK hZ hA hH hl
  have hx := hC.1
  have hb := hC.2.1
  have hl : lv_has ls 3 [(0, .ref (ad 0)), (1, .int i), (2, .int v)] := hl
  refine lv_aload_n hx hb dX2_changeFund_0 rfl (lv_at hl 0 rfl) ?_
  refine gf_X2_18 (v := .ref (ad 3)) hC hK hH 0 rfl rfl dX2_changeFund_1 ?_
  refine lv_iload_n hx hb dX2_changeFund_4 rfl (lv_at hl 1 rfl) ?_
  refine lv_iload_n hx hb dX2_changeFund_5 rfl (lv_at hl 2 rfl) ?_
  refine x_callN (ws' := WBK G ad (ua σ 3 (putF (σ 3) 4 i v))) (As := [.ref (ad 3), .int i, .int v]) (rest := []) (st' := []) hC hK hZ hA hl.1 hH (k_X11_put l G 4 (pk ad [3]) (pk σ [3]) i v (by decide)) lk_X2_28 [3] rfl rfl rfl rfl ⟨Nat.le_of_ble_eq_true rfl, Nat.le_of_ble_eq_true rfl⟩ ⟨Nat.le_refl _, Nat.le_refl _⟩ (Nat.le_of_ble_eq_true rfl) rfl dX2_changeFund_6 (fun H locs hH => ?_)
  exact x_vret hC hr hkL hH (congrArg (fun z_ : Nat → Int32 => WBK G ad (ua σ 3 z_)) (by exact (putF_in hi hj (by decide)).symm : (upd (σ 3) j v) = (putF (σ 3) 4 i v))) dX2_changeFund_9
set_option maxHeartbeats 4000000 in
set_option maxRecDepth 100000 in
theorem k_X2_numberOf (l : Launch) (G : GP) (ad : Nat → Nat) (σ : Nat → Nat → Int32) (b : Int32) (w : Int32) (bj : Nat) (wj : Nat) (hbN : b = nI bj) (hw : w = nI wj) (hbk : bj < 6) (hwk : wj < 7) : CT l G yX2_numberOf cX2_numberOf 3 (some .int) 1 [.ref (ad 0), .int b, .int w] (WBK G ad σ) (some (.int ((σ 2) (7 * bj + wj)))) (WBK G ad σ) := by
  refine x_meth "BetsOnBets$Book" rfl (by decide +kernel) (by rfl) (Nat.le_of_ble_eq_true rfl) ?_
  intro pP eE sS mM args below meth cC A ls hC hr hkL hK hZ hA hH hl
  have hx := hC.1
  have hb := hC.2.1
  have hl : lv_has ls 3 [(0, .ref (ad 0)), (1, .int b), (2, .int w)] := hl
  refine lv_aload_n hx hb dX2_numberOf_0 rfl (lv_at hl 0 rfl) ?_
  refine gf_X2_15 (v := .ref (ad 2)) hC hK hH 0 rfl rfl dX2_numberOf_1 ?_
  refine lv_iload_n hx hb dX2_numberOf_4 rfl (lv_at hl 1 rfl) ?_
  refine lv_bipush (v := 7) hx hb dX2_numberOf_5 (by decide) ?_
  refine lv_imul hx hb dX2_numberOf_7 ?_
  refine lv_iload_n hx hb dX2_numberOf_8 rfl (lv_at hl 2 rfl) ?_
  refine lv_iadd hx hb dX2_numberOf_9 ?_
  refine x_callN (ws' := WBK G ad σ) (As := [.ref (ad 2), .int ((b * 7) + w)]) (rest := []) (st' := [.int (atF (σ 2) 42 ((b * 7) + w))]) hC hK hZ hA hl.1 hH (k_X11_at l G 42 (pk ad [2]) (pk σ [2]) ((b * 7) + w) (by decide)) lk_X2_36 [2] rfl rfl rfl rfl ⟨Nat.le_of_ble_eq_true rfl, Nat.le_of_ble_eq_true rfl⟩ ⟨Nat.le_refl _, Nat.le_refl _⟩ (Nat.le_of_ble_eq_true rfl) rfl dX2_numberOf_10 (fun H locs hH => ?_)
  exact x_iret hC hr hkL hH (by exact (atF_in (by rw [hbN, hw, nIa, nIm, Int32.mul_comm]; rfl) (by omega) (by decide)).symm) rfl dX2_numberOf_13
set_option maxHeartbeats 4000000 in
set_option maxRecDepth 100000 in
theorem k_X2_change (l : Launch) (G : GP) (ad : Nat → Nat) (σ : Nat → Nat → Int32) (b : Int32) (w : Int32) (v : Int32) (bj : Nat) (wj : Nat) (hbN : b = nI bj) (hw : w = nI wj) (hbk : bj < 6) (hwk : wj < 7) : CT l G yX2_change cX2_change 4 none 1 [.ref (ad 0), .int b, .int w, .int v] (WBK G ad σ) none (WBK G ad (ua σ 2 (upd (σ 2) (7 * bj + wj) v))) := by
  refine x_meth "BetsOnBets$Book" rfl (by decide +kernel) (by rfl) (Nat.le_of_ble_eq_true rfl) ?_
  intro pP eE sS mM args below meth cC A ls hC hr hkL hK hZ hA hH hl
  have hx := hC.1
  have hb := hC.2.1
  have hl : lv_has ls 4 [(0, .ref (ad 0)), (1, .int b), (2, .int w), (3, .int v)] := hl
  refine lv_aload_n hx hb dX2_change_0 rfl (lv_at hl 0 rfl) ?_
  refine gf_X2_15 (v := .ref (ad 2)) hC hK hH 0 rfl rfl dX2_change_1 ?_
  refine lv_iload_n hx hb dX2_change_4 rfl (lv_at hl 1 rfl) ?_
  refine lv_bipush (v := 7) hx hb dX2_change_5 (by decide) ?_
  refine lv_imul hx hb dX2_change_7 ?_
  refine lv_iload_n hx hb dX2_change_8 rfl (lv_at hl 2 rfl) ?_
  refine lv_iadd hx hb dX2_change_9 ?_
  refine lv_iload_n hx hb dX2_change_10 rfl (lv_at hl 3 rfl) ?_
  refine x_callN (ws' := WBK G ad (ua σ 2 (putF (σ 2) 42 ((b * 7) + w) v))) (As := [.ref (ad 2), .int ((b * 7) + w), .int v]) (rest := []) (st' := []) hC hK hZ hA hl.1 hH (k_X11_put l G 42 (pk ad [2]) (pk σ [2]) ((b * 7) + w) v (by decide)) lk_X2_28 [2] rfl rfl rfl rfl ⟨Nat.le_of_ble_eq_true rfl, Nat.le_of_ble_eq_true rfl⟩ ⟨Nat.le_refl _, Nat.le_refl _⟩ (Nat.le_of_ble_eq_true rfl) rfl dX2_change_11 (fun H locs hH => ?_)
  exact x_vret hC hr hkL hH (congrArg (fun z_ : Nat → Int32 => WBK G ad (ua σ 2 z_)) (by exact (putF_in (by rw [hbN, hw, nIa, nIm, Int32.mul_comm]; rfl) (by omega) (by decide)).symm : (upd (σ 2) (7 * bj + wj) v) = (putF (σ 2) 42 ((b * 7) + w) v))) dX2_change_14
set_option maxHeartbeats 4000000 in
set_option maxRecDepth 100000 in
theorem k_X2_isMark (l : Launch) (G : GP) (ad : Nat → Nat) (σ : Nat → Nat → Int32) (v : Int32) (h : Nat) (k : Nat) (hb3 : (σ 0 3) = nI h) (hb4 : (σ 0 4) = nI k) (hh4 : h ≤ 4) (hk6 : k ≤ 6) : CT l G yX2_isMark cX2_isMark 2 (some .boolean) 0 [.ref (ad 0), .int v] (WBK G ad σ) (some (.int (bI (mkP h v)))) (WBK G ad σ) := by
  refine x_meth "BetsOnBets$Book" rfl (by decide +kernel) (by rfl) (Nat.le_of_ble_eq_true rfl) ?_
  intro pP eE sS mM args below meth cC A ls hC hr hkL hK hZ hA hH hl
  have hx := hC.1
  have hb := hC.2.1
  have hl : lv_has ls 2 [(0, .ref (ad 0)), (1, .int v)] := hl
  have pwh := pw4 hh4
  have pwk := pw6 hk6
  refine lv_iload_n hx hb dX2_isMark_0 rfl (lv_at hl 1 rfl) ?_
  refine lv_bipush (v := 10) hx hb dX2_isMark_1 (by decide) ?_
  refine lv_icmp_lt (tgt := 23) hx hb dX2_isMark_3 (by decide) (fun c3 => ?_) (fun c3 => ?_)
  · refine lv_iload_n hx hb dX2_isMark_23 rfl (lv_at hl 1 rfl) ?_
    refine lv_aload_n hx hb dX2_isMark_24 rfl (lv_at hl 0 rfl) ?_
    refine gf_X2_21 (v := .int (σ 0 3)) hC hK hH 0 rfl rfl dX2_isMark_25 ?_
    refine x_topE (y := (nI h)) hb3 ?_
    refine lv_icmp_ge (tgt := 35) hx hb dX2_isMark_28 (by decide) (fun c28 => ?_) (fun c28 => ?_)
    · refine lv_iconst (v := 0) hx hb dX2_isMark_35 (by decide) ?_
      exact x_zret hC hr hkL hH nar_bI (bI_f (by first | exact mkP_f2 (Int32.not_lt.mp c3) ((mk_16 c3).mp c12) | exact mkP_f1 (Int32.not_le.mpr c3) c28)) rfl dX2_isMark_36
    · refine lv_iconst (v := 1) hx hb dX2_isMark_31 (by decide) ?_
      refine lv_goto (tgt := 36) hx hb dX2_isMark_32 (by decide) ?_
      exact x_zret hC hr hkL hH nar_bI (bI_t (by first | exact mkP_t2 (Int32.not_lt.mp c3) (fun z => c12 ((mk_16 c3).mpr z)) | exact mkP_t1 (Int32.not_le.mpr c3) c28)) rfl dX2_isMark_36
  · refine lv_iload_n hx hb dX2_isMark_6 rfl (lv_at hl 1 rfl) ?_
    refine lv_bipush (v := 10) hx hb dX2_isMark_7 (by decide) ?_
    refine lv_isub hx hb dX2_isMark_9 ?_
    refine lv_bipush (v := 6) hx hb dX2_isMark_10 (by decide) ?_
    refine lv_icmp_ge (tgt := 19) hx hb dX2_isMark_12 (by decide) (fun c12 => ?_) (fun c12 => ?_)
    · refine lv_iconst (v := 0) hx hb dX2_isMark_19 (by decide) ?_
      refine lv_goto (tgt := 36) hx hb dX2_isMark_20 (by decide) ?_
      exact x_zret hC hr hkL hH nar_bI (bI_f (by first | exact mkP_f2 (Int32.not_lt.mp c3) ((mk_16 c3).mp c12) | exact mkP_f1 (Int32.not_le.mpr c3) c28)) rfl dX2_isMark_36
    · refine lv_iconst (v := 1) hx hb dX2_isMark_15 (by decide) ?_
      refine lv_goto (tgt := 36) hx hb dX2_isMark_16 (by decide) ?_
      exact x_zret hC hr hkL hH nar_bI (bI_t (by first | exact mkP_t2 (Int32.not_lt.mp c3) (fun z => c12 ((mk_16 c3).mpr z)) | exact mkP_t1 (Int32.not_le.mpr c3) c28)) rfl dX2_isMark_36
set_option maxHeartbeats 4000000 in
set_option maxRecDepth 100000 in
theorem k_X2_isRight (l : Launch) (G : GP) (ad : Nat → Nat) (σ : Nat → Nat → Int32) (h : Nat) (k : Nat) (hb3 : (σ 0 3) = nI h) (hb4 : (σ 0 4) = nI k) (hh4 : h ≤ 4) (hk6 : k ≤ 6) : CT l G yX2_isRight cX2_isRight 4 (some .boolean) 1 [.ref (ad 0), .ref (ad 4)] (WBN G ad σ) (some (.int (bI (riP h (σ 4))))) (WBN G ad σ) := by
  refine x_meth "BetsOnBets$Book" rfl (by decide +kernel) (by rfl) (Nat.le_of_ble_eq_true rfl) ?_
  intro pP eE sS mM args below meth cC A ls hC hr hkL hK hZ hA hH hl
  have hx := hC.1
  have hb := hC.2.1
  have hl : lv_has ls 4 [(0, .ref (ad 0)), (1, .ref (ad 4))] := hl
  have pwh := pw4 hh4
  have pwk := pw6 hk6
  refine lv_aload_n hx hb dX2_isRight_0 rfl (lv_at hl 1 rfl) ?_
  refine lv_iconst (v := 5) hx hb dX2_isRight_1 (by decide) ?_
  refine x_callN (ws' := WBN G ad σ) (As := [.ref (ad 4), .int 5]) (rest := []) (st' := [.int (atF (σ 4) 7 5)]) hC hK hZ hA hl.1 hH (k_X11_at l G 7 (pk ad [4]) (pk σ [4]) 5 (by decide)) lk_X2_36 [4] rfl rfl rfl rfl ⟨Nat.le_of_ble_eq_true rfl, Nat.le_of_ble_eq_true rfl⟩ ⟨Nat.le_refl _, Nat.le_refl _⟩ (Nat.le_of_ble_eq_true rfl) rfl dX2_isRight_2 (fun H locs hH => ?_)
  refine x_topE (y := ((σ 4) 5)) (atF_in (j := 5) rfl (by decide) (by decide)) ?_
  refine lv_istore_n (lv' := [(2, .int ((σ 4) 5)), (0, .ref (ad 0)), (1, .ref (ad 4))]) hx hb dX2_isRight_5 rfl hl (by decide) rfl (fun ls hl => ?_)
  refine lv_aload_n hx hb dX2_isRight_6 rfl (lv_at hl 2 rfl) ?_
  refine lv_bipush (v := 6) hx hb dX2_isRight_7 (by decide) ?_
  refine x_callN (ws' := WBN G ad σ) (As := [.ref (ad 4), .int 6]) (rest := []) (st' := [.int (atF (σ 4) 7 6)]) hC hK hZ hA hl.1 hH (k_X11_at l G 7 (pk ad [4]) (pk σ [4]) 6 (by decide)) lk_X2_36 [4] rfl rfl rfl rfl ⟨Nat.le_of_ble_eq_true rfl, Nat.le_of_ble_eq_true rfl⟩ ⟨Nat.le_refl _, Nat.le_refl _⟩ (Nat.le_of_ble_eq_true rfl) rfl dX2_isRight_9 (fun H locs hH => ?_)
  refine x_topE (y := ((σ 4) 6)) (atF_in (j := 6) rfl (by decide) (by decide)) ?_
  refine lv_istore_n (lv' := [(3, .int ((σ 4) 6)), (2, .int ((σ 4) 5)), (0, .ref (ad 0)), (1, .ref (ad 4))]) hx hb dX2_isRight_12 rfl hl (by decide) rfl (fun ls hl => ?_)
  refine lv_aload_n hx hb dX2_isRight_13 rfl (lv_at hl 2 rfl) ?_
  refine lv_aload_n hx hb dX2_isRight_14 rfl (lv_at hl 3 rfl) ?_
  refine lv_iconst (v := 1) hx hb dX2_isRight_15 (by decide) ?_
  refine x_callN (ws' := WBN G ad σ) (As := [.ref (ad 4), .int 1]) (rest := [.ref (ad 0)]) (st' := [.int (atF (σ 4) 7 1), .ref (ad 0)]) hC hK hZ hA hl.1 hH (k_X11_at l G 7 (pk ad [4]) (pk σ [4]) 1 (by decide)) lk_X2_36 [4] rfl rfl rfl rfl ⟨Nat.le_of_ble_eq_true rfl, Nat.le_of_ble_eq_true rfl⟩ ⟨Nat.le_refl _, Nat.le_refl _⟩ (Nat.le_of_ble_eq_true rfl) rfl dX2_isRight_16 (fun H locs hH => ?_)
  refine x_topE (y := ((σ 4) 1)) (atF_in (j := 1) rfl (by decide) (by decide)) ?_
  refine x_callV (ws' := WBN G ad σ) (As := [.int ((σ 4) 1)]) (rest := []) (st' := [.int (bI (mkP h ((σ 4) 1)))]) hC hK hZ hA hl.1 hH (k_X2_isMark l G (pk ad [0, 1, 2, 3]) (pk σ [0, 1, 2, 3]) ((σ 4) 1) h k hb3 hb4 hh4 hk6) lk_X2_68 [0, 1, 2, 3] rfl rfl rfl 0 1 rfl rfl rfl ⟨Nat.le_of_ble_eq_true rfl, Nat.le_of_ble_eq_true rfl⟩ ⟨Nat.le_refl _, Nat.le_refl _⟩ (Nat.le_of_ble_eq_true rfl) rfl dX2_isRight_19 (fun H locs hH => ?_)
  refine x_beq (tgt := 69) hC dX2_isRight_22 (by decide) (fun c22 => ?_) (fun c22 => ?_)
  · refine lv_iconst (v := 0) hx hb dX2_isRight_69 (by decide) ?_
    exact x_zret hC hr hkL hH nar_bI (bI_f (by first | exact fun z => c22 z.1 | exact fun z => c34 z.2.1 | exact fun z => npos_1 c43 z.2.2.1 | exact fun z => c50 z.2.2.2.1 | exact fun z => c57 z.2.2.2.2.1 | exact fun z => z.2.2.2.2.2 c62)) rfl dX2_isRight_70
  · refine lv_aload_n hx hb dX2_isRight_25 rfl (lv_at hl 2 rfl) ?_
    refine lv_aload_n hx hb dX2_isRight_26 rfl (lv_at hl 3 rfl) ?_
    refine lv_iconst (v := 2) hx hb dX2_isRight_27 (by decide) ?_
    refine x_callN (ws' := WBN G ad σ) (As := [.ref (ad 4), .int 2]) (rest := [.ref (ad 0)]) (st' := [.int (atF (σ 4) 7 2), .ref (ad 0)]) hC hK hZ hA hl.1 hH (k_X11_at l G 7 (pk ad [4]) (pk σ [4]) 2 (by decide)) lk_X2_36 [4] rfl rfl rfl rfl ⟨Nat.le_of_ble_eq_true rfl, Nat.le_of_ble_eq_true rfl⟩ ⟨Nat.le_refl _, Nat.le_refl _⟩ (Nat.le_of_ble_eq_true rfl) rfl dX2_isRight_28 (fun H locs hH => ?_)
    refine x_topE (y := ((σ 4) 2)) (atF_in (j := 2) rfl (by decide) (by decide)) ?_
    refine x_callV (ws' := WBN G ad σ) (As := [.int ((σ 4) 2)]) (rest := []) (st' := [.int (bI (mkP h ((σ 4) 2)))]) hC hK hZ hA hl.1 hH (k_X2_isMark l G (pk ad [0, 1, 2, 3]) (pk σ [0, 1, 2, 3]) ((σ 4) 2) h k hb3 hb4 hh4 hk6) lk_X2_68 [0, 1, 2, 3] rfl rfl rfl 0 1 rfl rfl rfl ⟨Nat.le_of_ble_eq_true rfl, Nat.le_of_ble_eq_true rfl⟩ ⟨Nat.le_refl _, Nat.le_refl _⟩ (Nat.le_of_ble_eq_true rfl) rfl dX2_isRight_31 (fun H locs hH => ?_)
    refine x_beq (tgt := 69) hC dX2_isRight_34 (by decide) (fun c34 => ?_) (fun c34 => ?_)
    · refine lv_iconst (v := 0) hx hb dX2_isRight_69 (by decide) ?_
      exact x_zret hC hr hkL hH nar_bI (bI_f (by first | exact fun z => c22 z.1 | exact fun z => c34 z.2.1 | exact fun z => npos_1 c43 z.2.2.1 | exact fun z => c50 z.2.2.2.1 | exact fun z => c57 z.2.2.2.2.1 | exact fun z => z.2.2.2.2.2 c62)) rfl dX2_isRight_70
    · refine lv_aload_n hx hb dX2_isRight_37 rfl (lv_at hl 3 rfl) ?_
      refine lv_iconst (v := 3) hx hb dX2_isRight_38 (by decide) ?_
      refine x_callN (ws' := WBN G ad σ) (As := [.ref (ad 4), .int 3]) (rest := []) (st' := [.int (atF (σ 4) 7 3)]) hC hK hZ hA hl.1 hH (k_X11_at l G 7 (pk ad [4]) (pk σ [4]) 3 (by decide)) lk_X2_36 [4] rfl rfl rfl rfl ⟨Nat.le_of_ble_eq_true rfl, Nat.le_of_ble_eq_true rfl⟩ ⟨Nat.le_refl _, Nat.le_refl _⟩ (Nat.le_of_ble_eq_true rfl) rfl dX2_isRight_39 (fun H locs hH => ?_)
      refine x_topE (y := ((σ 4) 3)) (atF_in (j := 3) rfl (by decide) (by decide)) ?_
      refine lv_iconst (v := 1) hx hb dX2_isRight_42 (by decide) ?_
      refine lv_icmp_lt (tgt := 69) hx hb dX2_isRight_43 (by decide) (fun c43 => ?_) (fun c43 => ?_)
      · refine lv_iconst (v := 0) hx hb dX2_isRight_69 (by decide) ?_
        exact x_zret hC hr hkL hH nar_bI (bI_f (by first | exact fun z => c22 z.1 | exact fun z => c34 z.2.1 | exact fun z => npos_1 c43 z.2.2.1 | exact fun z => c50 z.2.2.2.1 | exact fun z => c57 z.2.2.2.2.1 | exact fun z => z.2.2.2.2.2 c62)) rfl dX2_isRight_70
      · refine lv_iload_n hx hb dX2_isRight_46 rfl (lv_at hl 1 rfl) ?_
        refine x_callN (ws' := WBN G ad σ) (As := [.int ((σ 4) 5)]) (rest := []) (st' := [.int (bI (0 ≤ ((σ 4) 5) ∧ ((σ 4) 5) < 4))]) hC hK hZ hA hl.1 hH (k_X11_isPerson l G (pk ad []) (pk σ []) ((σ 4) 5)) lk_X2_61 [] rfl rfl rfl rfl ⟨Nat.le_of_ble_eq_true rfl, Nat.le_of_ble_eq_true rfl⟩ ⟨Nat.le_refl _, Nat.le_refl _⟩ (Nat.le_of_ble_eq_true rfl) rfl dX2_isRight_47 (fun H locs hH => ?_)
        refine x_beq (tgt := 69) hC dX2_isRight_50 (by decide) (fun c50 => ?_) (fun c50 => ?_)
        · refine lv_iconst (v := 0) hx hb dX2_isRight_69 (by decide) ?_
          exact x_zret hC hr hkL hH nar_bI (bI_f (by first | exact fun z => c22 z.1 | exact fun z => c34 z.2.1 | exact fun z => npos_1 c43 z.2.2.1 | exact fun z => c50 z.2.2.2.1 | exact fun z => c57 z.2.2.2.2.1 | exact fun z => z.2.2.2.2.2 c62)) rfl dX2_isRight_70
        · refine lv_iload_n hx hb dX2_isRight_53 rfl (lv_at hl 0 rfl) ?_
          refine x_callN (ws' := WBN G ad σ) (As := [.int ((σ 4) 6)]) (rest := []) (st' := [.int (bI (0 ≤ ((σ 4) 6) ∧ ((σ 4) 6) < 4))]) hC hK hZ hA hl.1 hH (k_X11_isPerson l G (pk ad []) (pk σ []) ((σ 4) 6)) lk_X2_61 [] rfl rfl rfl rfl ⟨Nat.le_of_ble_eq_true rfl, Nat.le_of_ble_eq_true rfl⟩ ⟨Nat.le_refl _, Nat.le_refl _⟩ (Nat.le_of_ble_eq_true rfl) rfl dX2_isRight_54 (fun H locs hH => ?_)
          refine x_beq (tgt := 69) hC dX2_isRight_57 (by decide) (fun c57 => ?_) (fun c57 => ?_)
          · refine lv_iconst (v := 0) hx hb dX2_isRight_69 (by decide) ?_
            exact x_zret hC hr hkL hH nar_bI (bI_f (by first | exact fun z => c22 z.1 | exact fun z => c34 z.2.1 | exact fun z => npos_1 c43 z.2.2.1 | exact fun z => c50 z.2.2.2.1 | exact fun z => c57 z.2.2.2.2.1 | exact fun z => z.2.2.2.2.2 c62)) rfl dX2_isRight_70
          · refine lv_iload_n hx hb dX2_isRight_60 rfl (lv_at hl 1 rfl) ?_
            refine lv_iload_n hx hb dX2_isRight_61 rfl (lv_at hl 0 rfl) ?_
            refine lv_icmp_eq (tgt := 69) hx hb dX2_isRight_62 (by decide) (fun c62 => ?_) (fun c62 => ?_)
            · refine lv_iconst (v := 0) hx hb dX2_isRight_69 (by decide) ?_
              exact x_zret hC hr hkL hH nar_bI (bI_f (by first | exact fun z => c22 z.1 | exact fun z => c34 z.2.1 | exact fun z => npos_1 c43 z.2.2.1 | exact fun z => c50 z.2.2.2.1 | exact fun z => c57 z.2.2.2.2.1 | exact fun z => z.2.2.2.2.2 c62)) rfl dX2_isRight_70
            · refine lv_iconst (v := 1) hx hb dX2_isRight_65 (by decide) ?_
              refine lv_goto (tgt := 70) hx hb dX2_isRight_66 (by decide) ?_
              exact x_zret hC hr hkL hH nar_bI (bI_t (by exact ⟨c22, c34, pos_1 c43, c50, c57, c62⟩)) rfl dX2_isRight_70
set_option maxHeartbeats 4000000 in
set_option maxRecDepth 100000 in
theorem k_X2_comesHappening (l : Launch) (G : GP) (ad : Nat → Nat) (σ : Nat → Nat → Int32) (c : Int32) (h : Nat) (k : Nat) (hb3 : (σ 0 3) = nI h) (hb4 : (σ 0 4) = nI k) (hh4 : h ≤ 4) (hk6 : k ≤ 6) : CT l G yX2_comesHappening cX2_comesHappening 2 (some .boolean) 1 [.ref (ad 0), .int c] (WBK G ad σ) (some (.int (bI (¬ c < 1 ∧ ¬ h = 4)))) (WBK G ad (ua (ua σ 0 (upd (σ 0) 3 (nI (cI (¬ c < 1 ∧ ¬ h = 4) (h + 1) h)))) 1 (cI (¬ c < 1 ∧ ¬ h = 4) (upd (σ 1) h c) (σ 1)))) := by
  refine x_meth "BetsOnBets$Book" rfl (by decide +kernel) (by rfl) (Nat.le_of_ble_eq_true rfl) ?_
  intro pP eE sS mM args below meth cC A ls hC hr hkL hK hZ hA hH hl
  have hx := hC.1
  have hb := hC.2.1
  have hl : lv_has ls 2 [(0, .ref (ad 0)), (1, .int c)] := hl
  have pwh := pw4 hh4
  have pwk := pw6 hk6
  refine lv_iload_n hx hb dX2_comesHappening_0 rfl (lv_at hl 1 rfl) ?_
  refine lv_iconst (v := 1) hx hb dX2_comesHappening_1 (by decide) ?_
  refine lv_icmp_lt (tgt := 13) hx hb dX2_comesHappening_2 (by decide) (fun c2 => ?_) (fun c2 => ?_)
  · have no_ : ¬ (¬ c < 1 ∧ ¬ h = 4) := (by first | exact fun z => z.1 c2 | exact fun z => c10 ((nI_ltI (a := h) (b := 4) (by omega) (by omega)).mpr (by omega)))
    refine lv_iconst (v := 0) hx hb dX2_comesHappening_13 (by decide) ?_
    exact x_zret hC hr hkL hH nar_bI (bI_f (by exact no_)) (((congrArg (fun z_ : Nat → Int32 => WBK G ad (ua (ua σ 0 z_) 1 (cI (¬ c < 1 ∧ ¬ h = 4) (upd (σ 1) h c) (σ 1)))) (by first | (rw [cI_t ok_]; done) | (rw [cI_f no_, ← hb3]; exact upd_id rfl) : (upd (σ 0) 3 (nI (cI (¬ c < 1 ∧ ¬ h = 4) (h + 1) h))) = (σ 0))).trans (congrArg (fun z_ : Nat → Int32 => WBK G ad (ua (ua σ 0 (σ 0)) 1 z_)) (by first | exact cI_t ok_ | exact cI_f no_ : (cI (¬ c < 1 ∧ ¬ h = 4) (upd (σ 1) h c) (σ 1)) = (σ 1)))).trans (show WBK G ad (ua (ua σ 0 (σ 0)) 1 (σ 1)) = WBK G ad σ from rfl)) dX2_comesHappening_14
  · refine lv_aload_n hx hb dX2_comesHappening_5 rfl (lv_at hl 0 rfl) ?_
    refine gf_X2_21 (v := .int (σ 0 3)) hC hK hH 0 rfl rfl dX2_comesHappening_6 ?_
    refine x_topE (y := (nI h)) hb3 ?_
    refine lv_iconst (v := 4) hx hb dX2_comesHappening_9 (by decide) ?_
    refine lv_icmp_lt (tgt := 15) hx hb dX2_comesHappening_10 (by decide) (fun c10 => ?_) (fun c10 => ?_)
    · have h4_ : h < 4 := (nI_ltI (a := h) (b := 4) (by omega) (by omega)).mp c10
      have ok_ : ¬ c < 1 ∧ ¬ h = 4 := ⟨c2, by omega⟩
      refine lv_aload_n hx hb dX2_comesHappening_15 rfl (lv_at hl 0 rfl) ?_
      refine gf_X2_9 (v := .ref (ad 1)) hC hK hH 0 rfl rfl dX2_comesHappening_16 ?_
      refine lv_aload_n hx hb dX2_comesHappening_19 rfl (lv_at hl 0 rfl) ?_
      refine gf_X2_21 (v := .int (σ 0 3)) hC hK hH 0 rfl rfl dX2_comesHappening_20 ?_
      refine x_topE (y := (nI h)) hb3 ?_
      refine lv_iload_n hx hb dX2_comesHappening_23 rfl (lv_at hl 1 rfl) ?_
      refine x_callN (ws' := WBK G ad (ua σ 1 (putF (σ 1) 4 (nI h) c))) (As := [.ref (ad 1), .int (nI h), .int c]) (rest := []) (st' := []) hC hK hZ hA hl.1 hH (k_X11_put l G 4 (pk ad [1]) (pk σ [1]) (nI h) c (by decide)) lk_X2_28 [1] rfl rfl rfl rfl ⟨Nat.le_of_ble_eq_true rfl, Nat.le_of_ble_eq_true rfl⟩ ⟨Nat.le_refl _, Nat.le_refl _⟩ (Nat.le_of_ble_eq_true rfl) rfl dX2_comesHappening_24 (fun H locs hH => ?_)
      replace hH : Hx G A (WBK G ad (ua σ 1 (upd (σ 1) h c))) sS.heap H locs := hH.eq (congrArg (fun z_ : Nat → Int32 => WBK G ad (ua σ 1 z_)) (by exact putF_in rfl h4_ (by decide) : (putF (σ 1) 4 (nI h) c) = (upd (σ 1) h c)))
      refine lv_aload_n hx hb dX2_comesHappening_27 rfl (lv_at hl 0 rfl) ?_
      refine lv_dup hx hb dX2_comesHappening_28 rfl ?_
      refine gf_X2_21 (v := .int (σ 0 3)) hC hK hH 0 rfl rfl dX2_comesHappening_29 ?_
      refine x_topE (y := (nI h)) hb3 ?_
      refine lv_iconst (v := 1) hx hb dX2_comesHappening_32 (by decide) ?_
      refine lv_iadd hx hb dX2_comesHappening_33 ?_
      refine x_topE (y := (nI (h + 1))) (nI_1 _) ?_
      refine pf_X2_21 (ws' := WBK G ad (ua (ua σ 0 (upd (σ 0) 3 (nI (h + 1)))) 1 (upd (σ 1) h c))) hC hK hH 0 rfl rfl rfl (Nat.le_of_ble_eq_true rfl) dX2_comesHappening_34 rfl (fun H locs hH => ?_)
      refine lv_iconst (v := 1) hx hb dX2_comesHappening_37 (by decide) ?_
      exact x_zret hC hr hkL hH nar_bI (bI_t (by exact ok_)) ((congrArg (fun z_ : Nat → Int32 => WBK G ad (ua (ua σ 0 z_) 1 (cI (¬ c < 1 ∧ ¬ h = 4) (upd (σ 1) h c) (σ 1)))) (by first | (rw [cI_t ok_]; done) | (rw [cI_f no_, ← hb3]; exact upd_id rfl) : (upd (σ 0) 3 (nI (cI (¬ c < 1 ∧ ¬ h = 4) (h + 1) h))) = (upd (σ 0) 3 (nI (h + 1))))).trans (congrArg (fun z_ : Nat → Int32 => WBK G ad (ua (ua σ 0 (upd (σ 0) 3 (nI (h + 1)))) 1 z_)) (by first | exact cI_t ok_ | exact cI_f no_ : (cI (¬ c < 1 ∧ ¬ h = 4) (upd (σ 1) h c) (σ 1)) = (upd (σ 1) h c)))) dX2_comesHappening_38
    · have no_ : ¬ (¬ c < 1 ∧ ¬ h = 4) := (by first | exact fun z => z.1 c2 | exact fun z => c10 ((nI_ltI (a := h) (b := 4) (by omega) (by omega)).mpr (by omega)))
      refine lv_iconst (v := 0) hx hb dX2_comesHappening_13 (by decide) ?_
      exact x_zret hC hr hkL hH nar_bI (bI_f (by exact no_)) (((congrArg (fun z_ : Nat → Int32 => WBK G ad (ua (ua σ 0 z_) 1 (cI (¬ c < 1 ∧ ¬ h = 4) (upd (σ 1) h c) (σ 1)))) (by first | (rw [cI_t ok_]; done) | (rw [cI_f no_, ← hb3]; exact upd_id rfl) : (upd (σ 0) 3 (nI (cI (¬ c < 1 ∧ ¬ h = 4) (h + 1) h))) = (σ 0))).trans (congrArg (fun z_ : Nat → Int32 => WBK G ad (ua (ua σ 0 (σ 0)) 1 z_)) (by first | exact cI_t ok_ | exact cI_f no_ : (cI (¬ c < 1 ∧ ¬ h = 4) (upd (σ 1) h c) (σ 1)) = (σ 1)))).trans (show WBK G ad (ua (ua σ 0 (σ 0)) 1 (σ 1)) = WBK G ad σ from rfl)) dX2_comesHappening_14
set_option maxHeartbeats 4000000 in
set_option maxRecDepth 100000 in
theorem k_X2_comesFund (l : Launch) (G : GP) (ad : Nat → Nat) (σ : Nat → Nat → Int32) (p : Int32) (v : Int32) (h : Nat) (k : Nat) (hb3 : (σ 0 3) = nI h) (hb4 : (σ 0 4) = nI k) (hh4 : h ≤ 4) (hk6 : k ≤ 6) : CT l G yX2_comesFund cX2_comesFund 3 (some .boolean) 2 [.ref (ad 0), .int p, .int v] (WBK G ad σ) (some (.int (bI (0 ≤ p ∧ p < 4)))) (WBK G ad (ua σ 3 (cI (0 ≤ p ∧ p < 4) (upd (σ 3) (p).toNatClampNeg v) (σ 3)))) := by
  refine x_meth "BetsOnBets$Book" rfl (by decide +kernel) (by rfl) (Nat.le_of_ble_eq_true rfl) ?_
  intro pP eE sS mM args below meth cC A ls hC hr hkL hK hZ hA hH hl
  have hx := hC.1
  have hb := hC.2.1
  have hl : lv_has ls 3 [(0, .ref (ad 0)), (1, .int p), (2, .int v)] := hl
  have pwh := pw4 hh4
  have pwk := pw6 hk6
  refine lv_iload_n hx hb dX2_comesFund_0 rfl (lv_at hl 1 rfl) ?_
  refine x_callN (ws' := WBK G ad σ) (As := [.int p]) (rest := []) (st' := [.int (bI (0 ≤ p ∧ p < 4))]) hC hK hZ hA hl.1 hH (k_X11_isPerson l G (pk ad []) (pk σ []) p) lk_X2_61 [] rfl rfl rfl rfl ⟨Nat.le_of_ble_eq_true rfl, Nat.le_of_ble_eq_true rfl⟩ ⟨Nat.le_refl _, Nat.le_refl _⟩ (Nat.le_of_ble_eq_true rfl) rfl dX2_comesFund_1 (fun H locs hH => ?_)
  refine x_bne (tgt := 9) hC dX2_comesFund_4 (by decide) (fun c4 => ?_) (fun c4 => ?_)
  · obtain ⟨j_, hj_, ej_⟩ := inb_of (k := 4) (by omega) c4
    have nj_ : (p : Int32).toNatClampNeg = j_ := by rw [ej_]; exact nI_clamp (by omega)
    refine lv_aload_n hx hb dX2_comesFund_9 rfl (lv_at hl 0 rfl) ?_
    refine lv_iload_n hx hb dX2_comesFund_10 rfl (lv_at hl 1 rfl) ?_
    refine lv_iload_n hx hb dX2_comesFund_11 rfl (lv_at hl 2 rfl) ?_
    refine x_callVA (ws' := WBK G ad (ua σ 3 (upd (σ 3) j_ v))) (As := [.int p, .int v]) (rest := []) (st' := []) hC hK hZ hA hl.1 hH (k_X2_changeFund l G ad σ p v j_ ej_ hj_) lk_X2_64 rfl 0 1 rfl rfl rfl ⟨Nat.le_of_ble_eq_true rfl, Nat.le_of_ble_eq_true rfl⟩ ⟨Nat.le_refl _, Nat.le_refl _⟩ (Nat.le_of_ble_eq_true rfl) rfl dX2_comesFund_12 (fun H locs hH => ?_)
    refine lv_iconst (v := 1) hx hb dX2_comesFund_15 (by decide) ?_
    exact x_zret hC hr hkL hH nar_bI (bI_t (by exact c4)) (congrArg (fun z_ : Nat → Int32 => WBK G ad (ua σ 3 z_)) (by first | (refine (cI_t c4).trans ?_; rw [nj_]; done) | exact cI_f c4 : (cI (0 ≤ p ∧ p < 4) (upd (σ 3) (p).toNatClampNeg v) (σ 3)) = (upd (σ 3) j_ v))) dX2_comesFund_16
  · refine lv_iconst (v := 0) hx hb dX2_comesFund_7 (by decide) ?_
    exact x_zret hC hr hkL hH nar_bI (bI_f (by exact c4)) ((congrArg (fun z_ : Nat → Int32 => WBK G ad (ua σ 3 z_)) (by first | (refine (cI_t c4).trans ?_; rw [nj_]; done) | exact cI_f c4 : (cI (0 ≤ p ∧ p < 4) (upd (σ 3) (p).toNatClampNeg v) (σ 3)) = (σ 3))).trans (show WBK G ad (ua σ 3 (σ 3)) = WBK G ad σ from rfl)) dX2_comesFund_8
set_option maxHeartbeats 4000000 in
set_option maxRecDepth 100000 in
theorem k_X2_comesBet (l : Launch) (G : GP) (ad : Nat → Nat) (σ : Nat → Nat → Int32) (h : Nat) (k : Nat) (hb3 : (σ 0 3) = nI h) (hb4 : (σ 0 4) = nI k) (hh4 : h ≤ 4) (hk6 : k ≤ 6) : CT l G yX2_comesBet cX2_comesBet 3 (some .boolean) 2 [.ref (ad 0), .ref (ad 4)] (WBN G ad σ) (some (.int (bI (cbP (bk h k (σ 1) (σ 2) (σ 3)) (σ 4))))) (WBN G ad (ua (ua σ 0 (upd (σ 0) 4 (nI (cI (cbP (bk h k (σ 1) (σ 2) (σ 3)) (σ 4)) (k + 1) k)))) 2 (cI (cbP (bk h k (σ 1) (σ 2) (σ 3)) (σ 4)) (cpB (σ 2) (7 * k) (σ 4) 7) (σ 2)))) := by
  refine x_meth "BetsOnBets$Book" rfl (by decide +kernel) (by rfl) (Nat.le_of_ble_eq_true rfl) ?_
  intro pP eE sS mM args below meth cC A ls hC hr hkL hK hZ hA hH hl
  have hx := hC.1
  have hb := hC.2.1
  have hl : lv_has ls 3 [(0, .ref (ad 0)), (1, .ref (ad 4))] := hl
  have pwh := pw4 hh4
  have pwk := pw6 hk6
  refine lv_aload_n hx hb dX2_comesBet_0 rfl (lv_at hl 0 rfl) ?_
  refine gf_X2_25 (v := .int (σ 0 4)) hC hK hH 0 rfl rfl dX2_comesBet_1 ?_
  refine x_topE (y := (nI k)) hb4 ?_
  refine lv_bipush (v := 6) hx hb dX2_comesBet_4 (by decide) ?_
  refine lv_icmp_ge (tgt := 17) hx hb dX2_comesBet_6 (by decide) (fun c6 => ?_) (fun c6 => ?_)
  · have no_ : ¬ cbP (bk h k (σ 1) (σ 2) (σ 3)) (σ 4) := (by first | exact fun z => c14 ⟨z.1, z.2.1, z.2.2.1, z.2.2.2.1, z.2.2.2.2.1, z.2.2.2.2.2.1⟩ | exact fun z => absurd ((nI_leI (a := 6) (b := k) (by omega) (by omega)).mp c6) (by have : k < 6 := z.2.2.2.2.2.2; omega))
    refine lv_iconst (v := 0) hx hb dX2_comesBet_17 (by decide) ?_
    exact x_zret hC hr hkL hH nar_bI (bI_f (by exact no_)) (((congrArg (fun z_ : Nat → Int32 => WBN G ad (ua (ua σ 0 z_) 2 (cI (cbP (bk h k (σ 1) (σ 2) (σ 3)) (σ 4)) (cpB (σ 2) (7 * k) (σ 4) 7) (σ 2)))) (by first | (rw [cI_t ok_]; done) | (rw [cI_f no_, ← hb4]; exact upd_id rfl) : (upd (σ 0) 4 (nI (cI (cbP (bk h k (σ 1) (σ 2) (σ 3)) (σ 4)) (k + 1) k))) = (σ 0))).trans (congrArg (fun z_ : Nat → Int32 => WBN G ad (ua (ua σ 0 (σ 0)) 2 z_)) (by first | exact cI_t ok_ | exact cI_f no_ : (cI (cbP (bk h k (σ 1) (σ 2) (σ 3)) (σ 4)) (cpB (σ 2) (7 * k) (σ 4) 7) (σ 2)) = (σ 2)))).trans (show WBN G ad (ua (ua σ 0 (σ 0)) 2 (σ 2)) = WBN G ad σ from rfl)) dX2_comesBet_18
  · have k6_ : k < 6 := by have := mt (nI_leI (a := 6) (b := k) (by omega) (by omega)).mpr c6; omega
    refine lv_aload_n hx hb dX2_comesBet_9 rfl (lv_at hl 0 rfl) ?_
    refine lv_aload_n hx hb dX2_comesBet_10 rfl (lv_at hl 1 rfl) ?_
    refine x_callVA (ws' := WBN G ad σ) (As := [.ref (ad 4)]) (rest := []) (st' := [.int (bI (riP h (σ 4)))]) hC hK hZ hA hl.1 hH (k_X2_isRight l G ad σ h k hb3 hb4 hh4 hk6) lk_X2_54 rfl 0 1 rfl rfl rfl ⟨Nat.le_of_ble_eq_true rfl, Nat.le_of_ble_eq_true rfl⟩ ⟨Nat.le_refl _, Nat.le_refl _⟩ (Nat.le_of_ble_eq_true rfl) rfl dX2_comesBet_11 (fun H locs hH => ?_)
    refine x_bne (tgt := 19) hC dX2_comesBet_14 (by decide) (fun c14 => ?_) (fun c14 => ?_)
    · have ok_ : cbP (bk h k (σ 1) (σ 2) (σ 3)) (σ 4) := ⟨c14.1, c14.2.1, c14.2.2.1, c14.2.2.2.1, c14.2.2.2.2.1, c14.2.2.2.2.2, k6_⟩
      refine lv_aload_n hx hb dX2_comesBet_19 rfl (lv_at hl 0 rfl) ?_
      refine lv_dup hx hb dX2_comesBet_20 rfl ?_
      refine gf_X2_25 (v := .int (σ 0 4)) hC hK hH 0 rfl rfl dX2_comesBet_21 ?_
      refine x_topE (y := (nI k)) hb4 ?_
      refine lv_iconst (v := 1) hx hb dX2_comesBet_24 (by decide) ?_
      refine lv_iadd hx hb dX2_comesBet_25 ?_
      refine x_topE (y := (nI (k + 1))) (nI_1 _) ?_
      refine pf_X2_25 (ws' := WBN G ad (ua σ 0 (upd (σ 0) 4 (nI (k + 1))))) hC hK hH 0 rfl rfl rfl (Nat.le_of_ble_eq_true rfl) dX2_comesBet_26 rfl (fun H locs hH => ?_)
      refine lv_iconst (v := 0) hx hb dX2_comesBet_29 (by decide) ?_
      refine lv_istore_n (lv' := [(2, .int 0), (0, .ref (ad 0)), (1, .ref (ad 4))]) hx hb dX2_comesBet_30 rfl hl (by decide) rfl (fun ls hl => ?_)
      refine x_loop (G := G) (A := A) (H0 := sS.heap) (nL := 3) (α := Nat) (fun q_ => 7 - q_) (fun q_ => q_ ≤ 7) (fun q_ => WBN G ad (ua (ua σ 0 (upd (σ 0) 4 (nI (k + 1)))) 2 (cpB (σ 2) (7 * k) (σ 4) q_))) (fun q_ => [(0, .ref (ad 0)), (1, .ref (ad 4)), (2, .int (nI q_))]) ?_ 0 (show 0 ≤ 7 from (Nat.zero_le _)) ?_ ?_
      · rintro j hi_j ih_j H locs ls hH hl
        replace hi_j : j ≤ 7 := hi_j
        replace hH : Hx G A (WBN G ad (ua (ua σ 0 (upd (σ 0) 4 (nI (k + 1)))) 2 (cpB (σ 2) (7 * k) (σ 4) j))) sS.heap H locs := hH
        replace hl : lv_has ls 3 [(0, .ref (ad 0)), (1, .ref (ad 4)), (2, .int (nI j))] := hl
        refine lv_iload_n hx hb dX2_comesBet_31 rfl (lv_at hl 2 rfl) ?_
        refine lv_bipush (v := 7) hx hb dX2_comesBet_32 (by decide) ?_
        refine lv_icmp_ge (tgt := 59) hx hb dX2_comesBet_34 (by decide) (fun c34 => ?_) (fun c34 => ?_)
        · have ge_j := lp_out (n := 7) rfl (by omega) (by omega) c34
          have eq_j : j = 7 := by omega
          subst eq_j
          refine lv_iconst (v := 1) hx hb dX2_comesBet_59 (by decide) ?_
          exact x_zret hC hr hkL hH nar_bI (bI_t (by exact ok_)) ((congrArg (fun z_ : Nat → Int32 => WBN G ad (ua (ua σ 0 z_) 2 (cI (cbP (bk h k (σ 1) (σ 2) (σ 3)) (σ 4)) (cpB (σ 2) (7 * k) (σ 4) 7) (σ 2)))) (by first | (rw [cI_t ok_]; done) | (rw [cI_f no_, ← hb4]; exact upd_id rfl) : (upd (σ 0) 4 (nI (cI (cbP (bk h k (σ 1) (σ 2) (σ 3)) (σ 4)) (k + 1) k))) = (upd (σ 0) 4 (nI (k + 1))))).trans (congrArg (fun z_ : Nat → Int32 => WBN G ad (ua (ua σ 0 (upd (σ 0) 4 (nI (k + 1)))) 2 z_)) (by first | exact cI_t ok_ | exact cI_f no_ : (cI (cbP (bk h k (σ 1) (σ 2) (σ 3)) (σ 4)) (cpB (σ 2) (7 * k) (σ 4) 7) (σ 2)) = (cpB (σ 2) (7 * k) (σ 4) 7)))) dX2_comesBet_60
        · have lt_j := lp_in (n := 7) rfl (by omega) (by omega) c34
          refine lv_aload_n hx hb dX2_comesBet_37 rfl (lv_at hl 0 rfl) ?_
          refine lv_aload_n hx hb dX2_comesBet_38 rfl (lv_at hl 0 rfl) ?_
          refine gf_X2_25 (v := .int (nI (k + 1))) hC hK hH 0 rfl rfl dX2_comesBet_39 ?_
          refine lv_iconst (v := 1) hx hb dX2_comesBet_42 (by decide) ?_
          refine lv_isub hx hb dX2_comesBet_43 ?_
          refine x_topE (y := (nI k)) (nI_pred _) ?_
          refine lv_iload_n hx hb dX2_comesBet_44 rfl (lv_at hl 2 rfl) ?_
          refine lv_aload_n hx hb dX2_comesBet_45 rfl (lv_at hl 1 rfl) ?_
          refine lv_iload_n hx hb dX2_comesBet_46 rfl (lv_at hl 2 rfl) ?_
          refine x_callN (ws' := WBN G ad (ua (ua σ 0 (upd (σ 0) 4 (nI (k + 1)))) 2 (cpB (σ 2) (7 * k) (σ 4) j))) (As := [.ref (ad 4), .int (nI j)]) (rest := [.int (nI j), .int (nI k), .ref (ad 0)]) (st' := [.int (atF (σ 4) 7 (nI j)), .int (nI j), .int (nI k), .ref (ad 0)]) hC hK hZ hA hl.1 hH (k_X11_at l G 7 (pk ad [4]) (pk (ua (ua σ 0 (upd (σ 0) 4 (nI (k + 1)))) 2 (cpB (σ 2) (7 * k) (σ 4) j)) [4]) (nI j) (by decide)) lk_X2_36 [4] rfl rfl rfl rfl ⟨Nat.le_of_ble_eq_true rfl, Nat.le_of_ble_eq_true rfl⟩ ⟨Nat.le_refl _, Nat.le_refl _⟩ (Nat.le_of_ble_eq_true rfl) rfl dX2_comesBet_47 (fun H locs hH => ?_)
          refine x_topE (y := ((σ 4) j)) (atF_in rfl (by omega) (by decide)) ?_
          refine x_callV (ws' := WBN G ad (ua (ua σ 0 (upd (σ 0) 4 (nI (k + 1)))) 2 (upd (cpB (σ 2) (7 * k) (σ 4) j) (7 * k + j) ((σ 4) j)))) (As := [.int (nI k), .int (nI j), .int ((σ 4) j)]) (rest := []) (st' := []) hC hK hZ hA hl.1 hH (k_X2_change l G (pk ad [0, 1, 2, 3]) (pk (ua (ua σ 0 (upd (σ 0) 4 (nI (k + 1)))) 2 (cpB (σ 2) (7 * k) (σ 4) j)) [0, 1, 2, 3]) (nI k) (nI j) ((σ 4) j) k j rfl rfl k6_ (by omega)) lk_X2_57 [0, 1, 2, 3] rfl rfl rfl 0 1 rfl rfl rfl ⟨Nat.le_of_ble_eq_true rfl, Nat.le_of_ble_eq_true rfl⟩ ⟨Nat.le_refl _, Nat.le_refl _⟩ (Nat.le_of_ble_eq_true rfl) rfl dX2_comesBet_50 (fun H locs hH => ?_)
          refine lv_iinc (v := ((nI j) + 1)) (lv' := [(2, .int ((nI j) + 1)), (0, .ref (ad 0)), (1, .ref (ad 4))]) hx hb dX2_comesBet_53 hl (k := 2) rfl rfl (by decide) rfl (fun ls hl => ?_)
          refine lv_goto (tgt := 31) hx hb dX2_comesBet_56 (by decide) ?_
          exact ih_j (j + 1) (show (j + 1) ≤ 7 from (by omega)) (show 7 - (j + 1) < 7 - j from (by omega)) _ _ _ (hH.eq (congrArg (fun z_ : Nat → Int32 => WBN G ad (ua (ua σ 0 (upd (σ 0) 4 (nI (k + 1)))) 2 z_)) (by rfl : (upd (cpB (σ 2) (7 * k) (σ 4) j) (7 * k + j) ((σ 4) j)) = (cpB (σ 2) (7 * k) (σ 4) (j + 1))))) (lv_eq (lv_sub hl [1, 2, 0] rfl) (lc_s (lc_s (lc_i (by exact nI_1 _ : ((nI j) + 1) = (nI (j + 1))) rfl))))
      · exact hH.eq (Eq.trans (show WBN G ad (ua σ 0 (upd (σ 0) 4 (nI (k + 1)))) = WBN G ad (ua (ua σ 0 (upd (σ 0) 4 (nI (k + 1)))) 2 (σ 2)) from rfl) (congrArg (fun z_ : Nat → Int32 => WBN G ad (ua (ua σ 0 (upd (σ 0) 4 (nI (k + 1)))) 2 z_)) (by rfl : (σ 2) = (cpB (σ 2) (7 * k) (σ 4) 0))))
      · exact lv_eq (lv_sub hl [1, 2, 0] rfl) (lc_s (lc_s (lc_i (by rfl : 0 = (nI 0)) rfl)))
    · have no_ : ¬ cbP (bk h k (σ 1) (σ 2) (σ 3)) (σ 4) := (by first | exact fun z => c14 ⟨z.1, z.2.1, z.2.2.1, z.2.2.2.1, z.2.2.2.2.1, z.2.2.2.2.2.1⟩ | exact fun z => absurd ((nI_leI (a := 6) (b := k) (by omega) (by omega)).mp c6) (by have : k < 6 := z.2.2.2.2.2.2; omega))
      refine lv_iconst (v := 0) hx hb dX2_comesBet_17 (by decide) ?_
      exact x_zret hC hr hkL hH nar_bI (bI_f (by exact no_)) (((congrArg (fun z_ : Nat → Int32 => WBN G ad (ua (ua σ 0 z_) 2 (cI (cbP (bk h k (σ 1) (σ 2) (σ 3)) (σ 4)) (cpB (σ 2) (7 * k) (σ 4) 7) (σ 2)))) (by first | (rw [cI_t ok_]; done) | (rw [cI_f no_, ← hb4]; exact upd_id rfl) : (upd (σ 0) 4 (nI (cI (cbP (bk h k (σ 1) (σ 2) (σ 3)) (σ 4)) (k + 1) k))) = (σ 0))).trans (congrArg (fun z_ : Nat → Int32 => WBN G ad (ua (ua σ 0 (σ 0)) 2 z_)) (by first | exact cI_t ok_ | exact cI_f no_ : (cI (cbP (bk h k (σ 1) (σ 2) (σ 3)) (σ 4)) (cpB (σ 2) (7 * k) (σ 4) 7) (σ 2)) = (σ 2)))).trans (show WBN G ad (ua (ua σ 0 (σ 0)) 2 (σ 2)) = WBN G ad σ from rfl)) dX2_comesBet_18
set_option maxHeartbeats 4000000 in
set_option maxRecDepth 100000 in
theorem k_X2_comes (l : Launch) (G : GP) (ad : Nat → Nat) (σ : Nat → Nat → Int32) (w : Int32) (h : Nat) (k : Nat) (c : Int32) (hb3 : (σ 0 3) = nI h) (hb4 : (σ 0 4) = nI k) (hh4 : h ≤ 4) (hk6 : k ≤ 6) (hw : (w = 0 ∧ c = 104) ∨ (w = 1 ∧ c = 98) ∨ (w = 2 ∧ c = 102)) : CT l G yX2_comes cX2_comes 3 (some .boolean) 3 [.ref (ad 0), .int w, .ref (ad 4)] (WBN G ad σ) (some (.int (bI (cmP (bk h k (σ 1) (σ 2) (σ 3)) (σ 4) c)))) (WBN G ad (ua (ua (ua (ua σ 0 (upd (upd (σ 0) 3 (nI (bH (csB (bk h k (σ 1) (σ 2) (σ 3)) (σ 4) c)))) 4 (nI (bK (csB (bk h k (σ 1) (σ 2) (σ 3)) (σ 4) c))))) 1 (bC (csB (bk h k (σ 1) (σ 2) (σ 3)) (σ 4) c))) 2 (bN (csB (bk h k (σ 1) (σ 2) (σ 3)) (σ 4) c))) 3 (bF (csB (bk h k (σ 1) (σ 2) (σ 3)) (σ 4) c)))) := by
  refine x_meth "BetsOnBets$Book" rfl (by decide +kernel) (by rfl) (Nat.le_of_ble_eq_true rfl) ?_
  intro pP eE sS mM args below meth cC A ls hC hr hkL hK hZ hA hH hl
  have hx := hC.1
  have hb := hC.2.1
  have hl : lv_has ls 3 [(0, .ref (ad 0)), (1, .int w), (2, .ref (ad 4))] := hl
  have pwh := pw4 hh4
  have pwk := pw6 hk6
  refine lv_iload_n hx hb dX2_comes_0 rfl (lv_at hl 1 rfl) ?_
  refine lv_if_ne (tgt := 14) hx hb dX2_comes_1 (by decide) (fun c1 => ?_) (fun c1 => ?_)
  · refine lv_iload_n hx hb dX2_comes_14 rfl (lv_at hl 1 rfl) ?_
    refine lv_iconst (v := 1) hx hb dX2_comes_15 (by decide) ?_
    refine lv_icmp_ne (tgt := 27) hx hb dX2_comes_16 (by decide) (fun c16 => ?_) (fun c16 => ?_)
    · have e_ : c = 102 := hw.elim (fun z => absurd z.1 c1) (fun z => z.elim (fun z => absurd z.1 c16) (fun z => z.2))
      refine lv_aload_n hx hb dX2_comes_27 rfl (lv_at hl 0 rfl) ?_
      refine lv_aload_n hx hb dX2_comes_28 rfl (lv_at hl 2 rfl) ?_
      refine lv_iconst (v := 0) hx hb dX2_comes_29 (by decide) ?_
      refine x_callN (ws' := WBN G ad σ) (As := [.ref (ad 4), .int 0]) (rest := [.ref (ad 0)]) (st' := [.int (atF (σ 4) 7 0), .ref (ad 0)]) hC hK hZ hA hl.1 hH (k_X11_at l G 7 (pk ad [4]) (pk σ [4]) 0 (by decide)) lk_X2_36 [4] rfl rfl rfl rfl ⟨Nat.le_of_ble_eq_true rfl, Nat.le_of_ble_eq_true rfl⟩ ⟨Nat.le_refl _, Nat.le_refl _⟩ (Nat.le_of_ble_eq_true rfl) rfl dX2_comes_30 (fun H locs hH => ?_)
      refine x_topE (y := ((σ 4) 0)) (atF_in (j := 0) rfl (by decide) (by decide)) ?_
      refine lv_aload_n hx hb dX2_comes_33 rfl (lv_at hl 2 rfl) ?_
      refine lv_iconst (v := 1) hx hb dX2_comes_34 (by decide) ?_
      refine x_callN (ws' := WBN G ad σ) (As := [.ref (ad 4), .int 1]) (rest := [.int ((σ 4) 0), .ref (ad 0)]) (st' := [.int (atF (σ 4) 7 1), .int ((σ 4) 0), .ref (ad 0)]) hC hK hZ hA hl.1 hH (k_X11_at l G 7 (pk ad [4]) (pk σ [4]) 1 (by decide)) lk_X2_36 [4] rfl rfl rfl rfl ⟨Nat.le_of_ble_eq_true rfl, Nat.le_of_ble_eq_true rfl⟩ ⟨Nat.le_refl _, Nat.le_refl _⟩ (Nat.le_of_ble_eq_true rfl) rfl dX2_comes_35 (fun H locs hH => ?_)
      refine x_topE (y := ((σ 4) 1)) (atF_in (j := 1) rfl (by decide) (by decide)) ?_
      refine x_callV (ws' := WBN G ad (ua σ 3 (cI (0 ≤ ((σ 4) 0) ∧ ((σ 4) 0) < 4) (upd (σ 3) (((σ 4) 0)).toNatClampNeg ((σ 4) 1)) (σ 3)))) (As := [.int ((σ 4) 0), .int ((σ 4) 1)]) (rest := []) (st' := [.int (bI (0 ≤ ((σ 4) 0) ∧ ((σ 4) 0) < 4))]) hC hK hZ hA hl.1 hH (k_X2_comesFund l G (pk ad [0, 1, 2, 3]) (pk σ [0, 1, 2, 3]) ((σ 4) 0) ((σ 4) 1) h k hb3 hb4 hh4 hk6) lk_X2_50 [0, 1, 2, 3] rfl rfl rfl 0 1 rfl rfl rfl ⟨Nat.le_of_ble_eq_true rfl, Nat.le_of_ble_eq_true rfl⟩ ⟨Nat.le_refl _, Nat.le_refl _⟩ (Nat.le_of_ble_eq_true rfl) rfl dX2_comes_38 (fun H locs hH => ?_)
      exact x_zret hC hr hkL hH nar_bI (bI_e (by first | exact cmP_h e_ | exact cmP_b e_ | exact cmP_d ⟨by rw [e_]; decide, by rw [e_]; decide⟩)) (((((congrArg (fun z_ : Nat → Int32 => WBN G ad (ua (ua (ua (ua σ 0 z_) 1 (bC (csB (bk h k (σ 1) (σ 2) (σ 3)) (σ 4) c))) 2 (bN (csB (bk h k (σ 1) (σ 2) (σ 3)) (σ 4) c))) 3 (bF (csB (bk h k (σ 1) (σ 2) (σ 3)) (σ 4) c)))) (by first | (rw [csB_h e_]; exact upd_c1 hb4.symm (by decide)) | (rw [csB_b e_]; exact upd_c2 hb3.symm) | (rw [csB_d e_]; exact upd2_id hb3.symm hb4.symm) : (upd (upd (σ 0) 3 (nI (bH (csB (bk h k (σ 1) (σ 2) (σ 3)) (σ 4) c)))) 4 (nI (bK (csB (bk h k (σ 1) (σ 2) (σ 3)) (σ 4) c)))) = (σ 0))).trans (congrArg (fun z_ : Nat → Int32 => WBN G ad (ua (ua (ua (ua σ 0 (σ 0)) 1 z_) 2 (bN (csB (bk h k (σ 1) (σ 2) (σ 3)) (σ 4) c))) 3 (bF (csB (bk h k (σ 1) (σ 2) (σ 3)) (σ 4) c)))) (by first | (rw [csB_h e_]; rfl) | (rw [csB_b e_]; rfl) | (rw [csB_d e_]; rfl) : (bC (csB (bk h k (σ 1) (σ 2) (σ 3)) (σ 4) c)) = (σ 1)))).trans (congrArg (fun z_ : Nat → Int32 => WBN G ad (ua (ua (ua (ua σ 0 (σ 0)) 1 (σ 1)) 2 z_) 3 (bF (csB (bk h k (σ 1) (σ 2) (σ 3)) (σ 4) c)))) (by first | (rw [csB_h e_]; rfl) | (rw [csB_b e_]; rfl) | (rw [csB_d e_]; rfl) : (bN (csB (bk h k (σ 1) (σ 2) (σ 3)) (σ 4) c)) = (σ 2)))).trans (congrArg (fun z_ : Nat → Int32 => WBN G ad (ua (ua (ua (ua σ 0 (σ 0)) 1 (σ 1)) 2 (σ 2)) 3 z_)) (by first | (rw [csB_h e_]; rfl) | (rw [csB_b e_]; rfl) | (rw [csB_d e_]; rfl) : (bF (csB (bk h k (σ 1) (σ 2) (σ 3)) (σ 4) c)) = (cI (0 ≤ ((σ 4) 0) ∧ ((σ 4) 0) < 4) (upd (σ 3) (((σ 4) 0)).toNatClampNeg ((σ 4) 1)) (σ 3))))).trans (show WBN G ad (ua (ua (ua (ua σ 0 (σ 0)) 1 (σ 1)) 2 (σ 2)) 3 (cI (0 ≤ ((σ 4) 0) ∧ ((σ 4) 0) < 4) (upd (σ 3) (((σ 4) 0)).toNatClampNeg ((σ 4) 1)) (σ 3))) = WBN G ad (ua σ 3 (cI (0 ≤ ((σ 4) 0) ∧ ((σ 4) 0) < 4) (upd (σ 3) (((σ 4) 0)).toNatClampNeg ((σ 4) 1)) (σ 3))) from rfl)) dX2_comes_41
    · have e_ : c = 98 := hw.elim (fun z => absurd z.1 c1) (fun z => z.elim (fun z => z.2) (fun z => absurd (c16.symm.trans z.1) (by decide)))
      refine lv_aload_n hx hb dX2_comes_19 rfl (lv_at hl 0 rfl) ?_
      refine lv_aload_n hx hb dX2_comes_20 rfl (lv_at hl 2 rfl) ?_
      refine x_callVA (ws' := WBN G ad (ua (ua σ 0 (upd (σ 0) 4 (nI (cI (cbP (bk h k (σ 1) (σ 2) (σ 3)) (σ 4)) (k + 1) k)))) 2 (cI (cbP (bk h k (σ 1) (σ 2) (σ 3)) (σ 4)) (cpB (σ 2) (7 * k) (σ 4) 7) (σ 2)))) (As := [.ref (ad 4)]) (rest := []) (st' := [.int (bI (cbP (bk h k (σ 1) (σ 2) (σ 3)) (σ 4)))]) hC hK hZ hA hl.1 hH (k_X2_comesBet l G ad σ h k hb3 hb4 hh4 hk6) lk_X2_46 rfl 0 1 rfl rfl rfl ⟨Nat.le_of_ble_eq_true rfl, Nat.le_of_ble_eq_true rfl⟩ ⟨Nat.le_refl _, Nat.le_refl _⟩ (Nat.le_of_ble_eq_true rfl) rfl dX2_comes_21 (fun H locs hH => ?_)
      refine lv_goto (tgt := 41) hx hb dX2_comes_24 (by decide) ?_
      exact x_zret hC hr hkL hH nar_bI (bI_e (by first | exact cmP_h e_ | exact cmP_b e_ | exact cmP_d ⟨by rw [e_]; decide, by rw [e_]; decide⟩)) (((((congrArg (fun z_ : Nat → Int32 => WBN G ad (ua (ua (ua (ua σ 0 z_) 1 (bC (csB (bk h k (σ 1) (σ 2) (σ 3)) (σ 4) c))) 2 (bN (csB (bk h k (σ 1) (σ 2) (σ 3)) (σ 4) c))) 3 (bF (csB (bk h k (σ 1) (σ 2) (σ 3)) (σ 4) c)))) (by first | (rw [csB_h e_]; exact upd_c1 hb4.symm (by decide)) | (rw [csB_b e_]; exact upd_c2 hb3.symm) | (rw [csB_d e_]; exact upd2_id hb3.symm hb4.symm) : (upd (upd (σ 0) 3 (nI (bH (csB (bk h k (σ 1) (σ 2) (σ 3)) (σ 4) c)))) 4 (nI (bK (csB (bk h k (σ 1) (σ 2) (σ 3)) (σ 4) c)))) = (upd (σ 0) 4 (nI (cI (cbP (bk h k (σ 1) (σ 2) (σ 3)) (σ 4)) (k + 1) k))))).trans (congrArg (fun z_ : Nat → Int32 => WBN G ad (ua (ua (ua (ua σ 0 (upd (σ 0) 4 (nI (cI (cbP (bk h k (σ 1) (σ 2) (σ 3)) (σ 4)) (k + 1) k)))) 1 z_) 2 (bN (csB (bk h k (σ 1) (σ 2) (σ 3)) (σ 4) c))) 3 (bF (csB (bk h k (σ 1) (σ 2) (σ 3)) (σ 4) c)))) (by first | (rw [csB_h e_]; rfl) | (rw [csB_b e_]; rfl) | (rw [csB_d e_]; rfl) : (bC (csB (bk h k (σ 1) (σ 2) (σ 3)) (σ 4) c)) = (σ 1)))).trans (congrArg (fun z_ : Nat → Int32 => WBN G ad (ua (ua (ua (ua σ 0 (upd (σ 0) 4 (nI (cI (cbP (bk h k (σ 1) (σ 2) (σ 3)) (σ 4)) (k + 1) k)))) 1 (σ 1)) 2 z_) 3 (bF (csB (bk h k (σ 1) (σ 2) (σ 3)) (σ 4) c)))) (by first | (rw [csB_h e_]; rfl) | (rw [csB_b e_]; rfl) | (rw [csB_d e_]; rfl) : (bN (csB (bk h k (σ 1) (σ 2) (σ 3)) (σ 4) c)) = (cI (cbP (bk h k (σ 1) (σ 2) (σ 3)) (σ 4)) (cpB (σ 2) (7 * k) (σ 4) 7) (σ 2))))).trans (congrArg (fun z_ : Nat → Int32 => WBN G ad (ua (ua (ua (ua σ 0 (upd (σ 0) 4 (nI (cI (cbP (bk h k (σ 1) (σ 2) (σ 3)) (σ 4)) (k + 1) k)))) 1 (σ 1)) 2 (cI (cbP (bk h k (σ 1) (σ 2) (σ 3)) (σ 4)) (cpB (σ 2) (7 * k) (σ 4) 7) (σ 2))) 3 z_)) (by first | (rw [csB_h e_]; rfl) | (rw [csB_b e_]; rfl) | (rw [csB_d e_]; rfl) : (bF (csB (bk h k (σ 1) (σ 2) (σ 3)) (σ 4) c)) = (σ 3)))).trans (show WBN G ad (ua (ua (ua (ua σ 0 (upd (σ 0) 4 (nI (cI (cbP (bk h k (σ 1) (σ 2) (σ 3)) (σ 4)) (k + 1) k)))) 1 (σ 1)) 2 (cI (cbP (bk h k (σ 1) (σ 2) (σ 3)) (σ 4)) (cpB (σ 2) (7 * k) (σ 4) 7) (σ 2))) 3 (σ 3)) = WBN G ad (ua (ua σ 0 (upd (σ 0) 4 (nI (cI (cbP (bk h k (σ 1) (σ 2) (σ 3)) (σ 4)) (k + 1) k)))) 2 (cI (cbP (bk h k (σ 1) (σ 2) (σ 3)) (σ 4)) (cpB (σ 2) (7 * k) (σ 4) 7) (σ 2))) from rfl)) dX2_comes_41
  · have e_ : c = 104 := hw.elim (fun z => z.2) (fun z => z.elim (fun z => absurd (c1.symm.trans z.1) (by decide)) (fun z => absurd (c1.symm.trans z.1) (by decide)))
    refine lv_aload_n hx hb dX2_comes_4 rfl (lv_at hl 0 rfl) ?_
    refine lv_aload_n hx hb dX2_comes_5 rfl (lv_at hl 2 rfl) ?_
    refine lv_iconst (v := 0) hx hb dX2_comes_6 (by decide) ?_
    refine x_callN (ws' := WBN G ad σ) (As := [.ref (ad 4), .int 0]) (rest := [.ref (ad 0)]) (st' := [.int (atF (σ 4) 7 0), .ref (ad 0)]) hC hK hZ hA hl.1 hH (k_X11_at l G 7 (pk ad [4]) (pk σ [4]) 0 (by decide)) lk_X2_36 [4] rfl rfl rfl rfl ⟨Nat.le_of_ble_eq_true rfl, Nat.le_of_ble_eq_true rfl⟩ ⟨Nat.le_refl _, Nat.le_refl _⟩ (Nat.le_of_ble_eq_true rfl) rfl dX2_comes_7 (fun H locs hH => ?_)
    refine x_topE (y := ((σ 4) 0)) (atF_in (j := 0) rfl (by decide) (by decide)) ?_
    refine x_callV (ws' := WBN G ad (ua (ua σ 0 (upd (σ 0) 3 (nI (cI (¬ ((σ 4) 0) < 1 ∧ ¬ h = 4) (h + 1) h)))) 1 (cI (¬ ((σ 4) 0) < 1 ∧ ¬ h = 4) (upd (σ 1) h ((σ 4) 0)) (σ 1)))) (As := [.int ((σ 4) 0)]) (rest := []) (st' := [.int (bI (¬ ((σ 4) 0) < 1 ∧ ¬ h = 4))]) hC hK hZ hA hl.1 hH (k_X2_comesHappening l G (pk ad [0, 1, 2, 3]) (pk σ [0, 1, 2, 3]) ((σ 4) 0) h k hb3 hb4 hh4 hk6) lk_X2_40 [0, 1, 2, 3] rfl rfl rfl 0 1 rfl rfl rfl ⟨Nat.le_of_ble_eq_true rfl, Nat.le_of_ble_eq_true rfl⟩ ⟨Nat.le_refl _, Nat.le_refl _⟩ (Nat.le_of_ble_eq_true rfl) rfl dX2_comes_10 (fun H locs hH => ?_)
    exact x_zret hC hr hkL hH nar_bI (bI_e (by first | exact cmP_h e_ | exact cmP_b e_ | exact cmP_d ⟨by rw [e_]; decide, by rw [e_]; decide⟩)) (((((congrArg (fun z_ : Nat → Int32 => WBN G ad (ua (ua (ua (ua σ 0 z_) 1 (bC (csB (bk h k (σ 1) (σ 2) (σ 3)) (σ 4) c))) 2 (bN (csB (bk h k (σ 1) (σ 2) (σ 3)) (σ 4) c))) 3 (bF (csB (bk h k (σ 1) (σ 2) (σ 3)) (σ 4) c)))) (by first | (rw [csB_h e_]; exact upd_c1 hb4.symm (by decide)) | (rw [csB_b e_]; exact upd_c2 hb3.symm) | (rw [csB_d e_]; exact upd2_id hb3.symm hb4.symm) : (upd (upd (σ 0) 3 (nI (bH (csB (bk h k (σ 1) (σ 2) (σ 3)) (σ 4) c)))) 4 (nI (bK (csB (bk h k (σ 1) (σ 2) (σ 3)) (σ 4) c)))) = (upd (σ 0) 3 (nI (cI (¬ ((σ 4) 0) < 1 ∧ ¬ h = 4) (h + 1) h))))).trans (congrArg (fun z_ : Nat → Int32 => WBN G ad (ua (ua (ua (ua σ 0 (upd (σ 0) 3 (nI (cI (¬ ((σ 4) 0) < 1 ∧ ¬ h = 4) (h + 1) h)))) 1 z_) 2 (bN (csB (bk h k (σ 1) (σ 2) (σ 3)) (σ 4) c))) 3 (bF (csB (bk h k (σ 1) (σ 2) (σ 3)) (σ 4) c)))) (by first | (rw [csB_h e_]; rfl) | (rw [csB_b e_]; rfl) | (rw [csB_d e_]; rfl) : (bC (csB (bk h k (σ 1) (σ 2) (σ 3)) (σ 4) c)) = (cI (¬ ((σ 4) 0) < 1 ∧ ¬ h = 4) (upd (σ 1) h ((σ 4) 0)) (σ 1))))).trans (congrArg (fun z_ : Nat → Int32 => WBN G ad (ua (ua (ua (ua σ 0 (upd (σ 0) 3 (nI (cI (¬ ((σ 4) 0) < 1 ∧ ¬ h = 4) (h + 1) h)))) 1 (cI (¬ ((σ 4) 0) < 1 ∧ ¬ h = 4) (upd (σ 1) h ((σ 4) 0)) (σ 1))) 2 z_) 3 (bF (csB (bk h k (σ 1) (σ 2) (σ 3)) (σ 4) c)))) (by first | (rw [csB_h e_]; rfl) | (rw [csB_b e_]; rfl) | (rw [csB_d e_]; rfl) : (bN (csB (bk h k (σ 1) (σ 2) (σ 3)) (σ 4) c)) = (σ 2)))).trans (congrArg (fun z_ : Nat → Int32 => WBN G ad (ua (ua (ua (ua σ 0 (upd (σ 0) 3 (nI (cI (¬ ((σ 4) 0) < 1 ∧ ¬ h = 4) (h + 1) h)))) 1 (cI (¬ ((σ 4) 0) < 1 ∧ ¬ h = 4) (upd (σ 1) h ((σ 4) 0)) (σ 1))) 2 (σ 2)) 3 z_)) (by first | (rw [csB_h e_]; rfl) | (rw [csB_b e_]; rfl) | (rw [csB_d e_]; rfl) : (bF (csB (bk h k (σ 1) (σ 2) (σ 3)) (σ 4) c)) = (σ 3)))).trans (show WBN G ad (ua (ua (ua (ua σ 0 (upd (σ 0) 3 (nI (cI (¬ ((σ 4) 0) < 1 ∧ ¬ h = 4) (h + 1) h)))) 1 (cI (¬ ((σ 4) 0) < 1 ∧ ¬ h = 4) (upd (σ 1) h ((σ 4) 0)) (σ 1))) 2 (σ 2)) 3 (σ 3)) = WBN G ad (ua (ua σ 0 (upd (σ 0) 3 (nI (cI (¬ ((σ 4) 0) < 1 ∧ ¬ h = 4) (h + 1) h)))) 1 (cI (¬ ((σ 4) 0) < 1 ∧ ¬ h = 4) (upd (σ 1) h ((σ 4) 0)) (σ 1))) from rfl)) dX2_comes_13
set_option maxHeartbeats 4000000 in
set_option maxRecDepth 100000 in
theorem k_X2_allStakes (l : Launch) (G : GP) (ad : Nat → Nat) (σ : Nat → Nat → Int32) (h : Nat) (k : Nat) (hb3 : (σ 0 3) = nI h) (hb4 : (σ 0 4) = nI k) (hh4 : h ≤ 4) (hk6 : k ≤ 6) : CT l G yX2_allStakes cX2_allStakes 3 (some .int) 2 [.ref (ad 0)] (WBK G ad σ) (some (.int (stS (bk h k (σ 1) (σ 2) (σ 3)) k))) (WBK G ad σ) := by
  refine x_meth "BetsOnBets$Book" rfl (by decide +kernel) (by rfl) (Nat.le_of_ble_eq_true rfl) ?_
  intro pP eE sS mM args below meth cC A ls hC hr hkL hK hZ hA hH hl
  have hx := hC.1
  have hb := hC.2.1
  have hl : lv_has ls 3 [(0, .ref (ad 0))] := hl
  have pwh := pw4 hh4
  have pwk := pw6 hk6
  refine lv_iconst (v := 0) hx hb dX2_allStakes_0 (by decide) ?_
  refine lv_istore_n (lv' := [(1, .int 0), (0, .ref (ad 0))]) hx hb dX2_allStakes_1 rfl hl (by decide) rfl (fun ls hl => ?_)
  refine lv_iconst (v := 0) hx hb dX2_allStakes_2 (by decide) ?_
  refine lv_istore_n (lv' := [(2, .int 0), (1, .int 0), (0, .ref (ad 0))]) hx hb dX2_allStakes_3 rfl hl (by decide) rfl (fun ls hl => ?_)
  refine x_loop (G := G) (A := A) (H0 := sS.heap) (nL := 3) (α := Nat) (fun q_ => k - q_) (fun q_ => q_ ≤ k) (fun q_ => WBK G ad σ) (fun q_ => [(0, .ref (ad 0)), (1, .int (stS (bk h k (σ 1) (σ 2) (σ 3)) q_)), (2, .int (nI q_))]) ?_ 0 (show 0 ≤ k from (Nat.zero_le _)) ?_ ?_
  · rintro b hi_b ih_b H locs ls hH hl
    replace hi_b : b ≤ k := hi_b
    replace hH : Hx G A (WBK G ad σ) sS.heap H locs := hH
    replace hl : lv_has ls 3 [(0, .ref (ad 0)), (1, .int (stS (bk h k (σ 1) (σ 2) (σ 3)) b)), (2, .int (nI b))] := hl
    refine lv_iload_n hx hb dX2_allStakes_4 rfl (lv_at hl 2 rfl) ?_
    refine lv_aload_n hx hb dX2_allStakes_5 rfl (lv_at hl 0 rfl) ?_
    refine gf_X2_25 (v := .int (σ 0 4)) hC hK hH 0 rfl rfl dX2_allStakes_6 ?_
    refine x_topE (y := (nI k)) hb4 ?_
    refine lv_icmp_ge (tgt := 27) hx hb dX2_allStakes_9 (by decide) (fun c9 => ?_) (fun c9 => ?_)
    · have ge_b := lp_out (n := k) rfl (by omega) (by omega) c9
      have eq_b : b = k := by omega
      refine lv_iload_n hx hb dX2_allStakes_27 rfl (lv_at hl 1 rfl) ?_
      exact x_iret hC hr hkL hH (by rw [eq_b]) rfl dX2_allStakes_28
    · have lt_b := lp_in (n := k) rfl (by omega) (by omega) c9
      refine lv_iload_n hx hb dX2_allStakes_12 rfl (lv_at hl 1 rfl) ?_
      refine lv_aload_n hx hb dX2_allStakes_13 rfl (lv_at hl 0 rfl) ?_
      refine lv_iload_n hx hb dX2_allStakes_14 rfl (lv_at hl 2 rfl) ?_
      refine lv_iconst (v := 3) hx hb dX2_allStakes_15 (by decide) ?_
      refine x_callVA (ws' := WBK G ad σ) (As := [.int (nI b), .int 3]) (rest := [.int (stS (bk h k (σ 1) (σ 2) (σ 3)) b)]) (st' := [.int ((σ 2) (7 * b + 3)), .int (stS (bk h k (σ 1) (σ 2) (σ 3)) b)]) hC hK hZ hA hl.1 hH (k_X2_numberOf l G ad σ (nI b) 3 b 3 rfl rfl (by omega) (by decide)) lk_X2_75 rfl 0 1 rfl rfl rfl ⟨Nat.le_of_ble_eq_true rfl, Nat.le_of_ble_eq_true rfl⟩ ⟨Nat.le_refl _, Nat.le_refl _⟩ (Nat.le_of_ble_eq_true rfl) rfl dX2_allStakes_16 (fun H locs hH => ?_)
      refine lv_iadd hx hb dX2_allStakes_19 ?_
      refine lv_istore_n (lv' := [(1, .int ((stS (bk h k (σ 1) (σ 2) (σ 3)) b) + ((σ 2) (7 * b + 3)))), (0, .ref (ad 0)), (2, .int (nI b))]) hx hb dX2_allStakes_20 rfl hl (by decide) rfl (fun ls hl => ?_)
      refine lv_iinc (v := ((nI b) + 1)) (lv' := [(2, .int ((nI b) + 1)), (1, .int ((stS (bk h k (σ 1) (σ 2) (σ 3)) b) + ((σ 2) (7 * b + 3)))), (0, .ref (ad 0))]) hx hb dX2_allStakes_21 hl (k := 2) rfl rfl (by decide) rfl (fun ls hl => ?_)
      refine lv_goto (tgt := 4) hx hb dX2_allStakes_24 (by decide) ?_
      exact ih_b (b + 1) (show (b + 1) ≤ k from (by omega)) (show k - (b + 1) < k - b from (by omega)) _ _ _ (hH.eq rfl) (lv_eq (lv_sub hl [2, 1, 0] rfl) (lc_s (lc_i (by rfl : ((stS (bk h k (σ 1) (σ 2) (σ 3)) b) + ((σ 2) (7 * b + 3))) = (stS (bk h k (σ 1) (σ 2) (σ 3)) (b + 1))) (lc_i (by exact nI_1 _ : ((nI b) + 1) = (nI (b + 1))) rfl))))
  · exact hH.eq rfl
  · exact lv_eq (lv_sub hl [2, 1, 0] rfl) (lc_s (lc_i (by rfl : 0 = (stS (bk h k (σ 1) (σ 2) (σ 3)) 0)) (lc_i (by rfl : 0 = (nI 0)) rfl)))
set_option maxHeartbeats 4000000 in
set_option maxRecDepth 100000 in
theorem k_X2_weightOf (l : Launch) (G : GP) (ad : Nat → Nat) (σ : Nat → Nat → Int32) (e : Int32) (h : Nat) (k : Nat) (hb3 : (σ 0 3) = nI h) (hb4 : (σ 0 4) = nI k) (hh4 : h ≤ 4) (hk6 : k ≤ 6) : CT l G yX2_weightOf cX2_weightOf 6 (some .long) 2 [.ref (ad 0), .int e] (WBK G ad σ) (some (.long (wgtA (bk h k (σ 1) (σ 2) (σ 3)) e))) (WBK G ad σ) := by
  refine x_meth "BetsOnBets$Book" rfl (by decide +kernel) (by rfl) (Nat.le_of_ble_eq_true rfl) ?_
  intro pP eE sS mM args below meth cC A ls hC hr hkL hK hZ hA hH hl
  have hx := hC.1
  have hb := hC.2.1
  have hl : lv_has ls 6 [(0, .ref (ad 0)), (1, .int e)] := hl
  have pwh := pw4 hh4
  have pwk := pw6 hk6
  refine lv_lconst (v := 1) hx hb dX2_weightOf_0 (by decide) ?_
  refine lv_lstore_n (lv' := [(2, .long (1 : Int64)), (0, .ref (ad 0)), (1, .int e)]) hx hb dX2_weightOf_1 rfl hl (by decide) rfl (fun ls hl => ?_)
  refine lv_iconst (v := 0) hx hb dX2_weightOf_2 (by decide) ?_
  refine lv_istore (lv' := [(4, .int 0), (2, .long (1 : Int64)), (0, .ref (ad 0)), (1, .int e)]) hx hb dX2_weightOf_3 hl (by decide) rfl (fun ls hl => ?_)
  refine x_loop (G := G) (A := A) (H0 := sS.heap) (nL := 6) (α := Nat) (fun q_ => h - q_) (fun q_ => q_ ≤ h) (fun q_ => WBK G ad σ) (fun q_ => [(0, .ref (ad 0)), (1, .int e), (2, .long (wgt (bk h k (σ 1) (σ 2) (σ 3)) e q_)), (4, .int (nI q_))]) ?_ 0 (show 0 ≤ h from (Nat.zero_le _)) ?_ ?_
  · rintro i hi_i ih_i H locs ls hH hl
    replace hi_i : i ≤ h := hi_i
    replace hH : Hx G A (WBK G ad σ) sS.heap H locs := hH
    replace hl : lv_has ls 6 [(0, .ref (ad 0)), (1, .int e), (2, .long (wgt (bk h k (σ 1) (σ 2) (σ 3)) e i)), (4, .int (nI i))] := hl
    refine lv_iload hx hb dX2_weightOf_5 (lv_at hl 3 rfl) ?_
    refine lv_aload_n hx hb dX2_weightOf_7 rfl (lv_at hl 0 rfl) ?_
    refine gf_X2_21 (v := .int (σ 0 3)) hC hK hH 0 rfl rfl dX2_weightOf_8 ?_
    refine x_topE (y := (nI h)) hb3 ?_
    refine lv_icmp_ge (tgt := 52) hx hb dX2_weightOf_11 (by decide) (fun c11 => ?_) (fun c11 => ?_)
    · have ge_i := lp_out (n := h) rfl (by omega) (by omega) c11
      have eq_i : i = h := by omega
      refine lv_lload_n hx hb dX2_weightOf_52 rfl (lv_at hl 2 rfl) ?_
      exact x_lret hC hr hkL hH (by rw [eq_i]; rfl) rfl dX2_weightOf_53
    · have lt_i := lp_in (n := h) rfl (by omega) (by omega) c11
      refine lv_aload_n hx hb dX2_weightOf_14 rfl (lv_at hl 0 rfl) ?_
      refine lv_iload hx hb dX2_weightOf_15 (lv_at hl 3 rfl) ?_
      refine x_callVA (ws' := WBK G ad σ) (As := [.int (nI i)]) (rest := []) (st' := [.int ((σ 1) i)]) hC hK hZ hA hl.1 hH (k_X2_chanceOf l G ad σ (nI i) i rfl (by omega)) lk_X2_79 rfl 0 1 rfl rfl rfl ⟨Nat.le_of_ble_eq_true rfl, Nat.le_of_ble_eq_true rfl⟩ ⟨Nat.le_refl _, Nat.le_refl _⟩ (Nat.le_of_ble_eq_true rfl) rfl dX2_weightOf_17 (fun H locs hH => ?_)
      refine lv_istore (lv' := [(5, .int ((σ 1) i)), (0, .ref (ad 0)), (1, .int e), (2, .long (wgt (bk h k (σ 1) (σ 2) (σ 3)) e i)), (4, .int (nI i))]) hx hb dX2_weightOf_20 hl (by decide) rfl (fun ls hl => ?_)
      refine lv_lload_n hx hb dX2_weightOf_22 rfl (lv_at hl 3 rfl) ?_
      refine lv_iload_n hx hb dX2_weightOf_23 rfl (lv_at hl 2 rfl) ?_
      refine lv_iload hx hb dX2_weightOf_24 (lv_at hl 4 rfl) ?_
      refine x_callN (ws' := WBK G ad σ) (As := [.int e, .int (nI i)]) (rest := [.long (wgt (bk h k (σ 1) (σ 2) (σ 3)) e i)]) (st' := [.int (bI (tb e (nI i))), .long (wgt (bk h k (σ 1) (σ 2) (σ 3)) e i)]) hC hK hZ hA hl.1 hH (k_X11_has l G (pk ad []) (pk σ []) e (nI i)) lk_X2_83 [] rfl rfl rfl rfl ⟨Nat.le_of_ble_eq_true rfl, Nat.le_of_ble_eq_true rfl⟩ ⟨Nat.le_refl _, Nat.le_refl _⟩ (Nat.le_of_ble_eq_true rfl) rfl dX2_weightOf_26 (fun H locs hH => ?_)
      refine x_beq (tgt := 38) hC dX2_weightOf_29 (by decide) (fun c29 => ?_) (fun c29 => ?_)
      · refine lv_bipush (v := 100) hx hb dX2_weightOf_38 (by decide) ?_
        refine lv_iload hx hb dX2_weightOf_40 (lv_at hl 0 rfl) ?_
        refine lv_isub hx hb dX2_weightOf_42 ?_
        refine lv_i2l (v := ((100 - ((σ 1) i)).toInt64)) hx hb dX2_weightOf_43 rfl ?_
        refine lv_lmul hx hb dX2_weightOf_44 ?_
        refine lv_lstore_n (lv' := [(2, .long ((wgt (bk h k (σ 1) (σ 2) (σ 3)) e i) * ((100 - ((σ 1) i)).toInt64))), (5, .int ((σ 1) i)), (0, .ref (ad 0)), (1, .int e), (4, .int (nI i))]) hx hb dX2_weightOf_45 rfl hl (by decide) rfl (fun ls hl => ?_)
        refine lv_iinc (v := ((nI i) + 1)) (lv' := [(4, .int ((nI i) + 1)), (2, .long ((wgt (bk h k (σ 1) (σ 2) (σ 3)) e i) * ((100 - ((σ 1) i)).toInt64))), (5, .int ((σ 1) i)), (0, .ref (ad 0)), (1, .int e)]) hx hb dX2_weightOf_46 hl (k := 4) rfl rfl (by decide) rfl (fun ls hl => ?_)
        refine lv_goto (tgt := 5) hx hb dX2_weightOf_49 (by decide) ?_
        exact ih_i (i + 1) (show (i + 1) ≤ h from (by omega)) (show h - (i + 1) < h - i from (by omega)) _ _ _ (hH.eq rfl) (lv_eq (lv_sub hl [3, 4, 1, 0] rfl) (lc_s (lc_s (lc_l (by first | exact wgt_t c29 | exact wgt_f c29 : ((wgt (bk h k (σ 1) (σ 2) (σ 3)) e i) * ((100 - ((σ 1) i)).toInt64)) = (wgt (bk h k (σ 1) (σ 2) (σ 3)) e (i + 1))) (lc_i (by exact nI_1 _ : ((nI i) + 1) = (nI (i + 1))) rfl)))))
      · refine lv_iload hx hb dX2_weightOf_32 (lv_at hl 0 rfl) ?_
        refine lv_i2l (v := (((σ 1) i).toInt64)) hx hb dX2_weightOf_34 rfl ?_
        refine lv_goto (tgt := 44) hx hb dX2_weightOf_35 (by decide) ?_
        refine lv_lmul hx hb dX2_weightOf_44 ?_
        refine lv_lstore_n (lv' := [(2, .long ((wgt (bk h k (σ 1) (σ 2) (σ 3)) e i) * (((σ 1) i).toInt64))), (5, .int ((σ 1) i)), (0, .ref (ad 0)), (1, .int e), (4, .int (nI i))]) hx hb dX2_weightOf_45 rfl hl (by decide) rfl (fun ls hl => ?_)
        refine lv_iinc (v := ((nI i) + 1)) (lv' := [(4, .int ((nI i) + 1)), (2, .long ((wgt (bk h k (σ 1) (σ 2) (σ 3)) e i) * (((σ 1) i).toInt64))), (5, .int ((σ 1) i)), (0, .ref (ad 0)), (1, .int e)]) hx hb dX2_weightOf_46 hl (k := 4) rfl rfl (by decide) rfl (fun ls hl => ?_)
        refine lv_goto (tgt := 5) hx hb dX2_weightOf_49 (by decide) ?_
        exact ih_i (i + 1) (show (i + 1) ≤ h from (by omega)) (show h - (i + 1) < h - i from (by omega)) _ _ _ (hH.eq rfl) (lv_eq (lv_sub hl [3, 4, 1, 0] rfl) (lc_s (lc_s (lc_l (by first | exact wgt_t c29 | exact wgt_f c29 : ((wgt (bk h k (σ 1) (σ 2) (σ 3)) e i) * (((σ 1) i).toInt64)) = (wgt (bk h k (σ 1) (σ 2) (σ 3)) e (i + 1))) (lc_i (by exact nI_1 _ : ((nI i) + 1) = (nI (i + 1))) rfl)))))
  · exact hH.eq rfl
  · exact lv_eq (lv_sub hl [2, 3, 1, 0] rfl) (lc_s (lc_s (lc_l (by rfl : (1 : Int64) = (wgt (bk h k (σ 1) (σ 2) (σ 3)) e 0)) (lc_i (by rfl : 0 = (nI 0)) rfl))))
set_option maxHeartbeats 4000000 in
set_option maxRecDepth 100000 in
theorem k_X2_wholeWeight (l : Launch) (G : GP) (ad : Nat → Nat) (σ : Nat → Nat → Int32) (h : Nat) (k : Nat) (hb3 : (σ 0 3) = nI h) (hb4 : (σ 0 4) = nI k) (hh4 : h ≤ 4) (hk6 : k ≤ 6) : CT l G yX2_wholeWeight cX2_wholeWeight 4 (some .long) 0 [.ref (ad 0)] (WBK G ad σ) (some (.long (whl h))) (WBK G ad σ) := by
  refine x_meth "BetsOnBets$Book" rfl (by decide +kernel) (by rfl) (Nat.le_of_ble_eq_true rfl) ?_
  intro pP eE sS mM args below meth cC A ls hC hr hkL hK hZ hA hH hl
  have hx := hC.1
  have hb := hC.2.1
  have hl : lv_has ls 4 [(0, .ref (ad 0))] := hl
  have pwh := pw4 hh4
  have pwk := pw6 hk6
  refine lv_lconst (v := 1) hx hb dX2_wholeWeight_0 (by decide) ?_
  refine lv_lstore_n (lv' := [(1, .long (1 : Int64)), (0, .ref (ad 0))]) hx hb dX2_wholeWeight_1 rfl hl (by decide) rfl (fun ls hl => ?_)
  refine lv_iconst (v := 0) hx hb dX2_wholeWeight_2 (by decide) ?_
  refine lv_istore_n (lv' := [(3, .int 0), (1, .long (1 : Int64)), (0, .ref (ad 0))]) hx hb dX2_wholeWeight_3 rfl hl (by decide) rfl (fun ls hl => ?_)
  refine x_loop (G := G) (A := A) (H0 := sS.heap) (nL := 4) (α := Nat) (fun q_ => h - q_) (fun q_ => q_ ≤ h) (fun q_ => WBK G ad σ) (fun q_ => [(0, .ref (ad 0)), (1, .long (whl q_)), (3, .int (nI q_))]) ?_ 0 (show 0 ≤ h from (Nat.zero_le _)) ?_ ?_
  · rintro i hi_i ih_i H locs ls hH hl
    replace hi_i : i ≤ h := hi_i
    replace hH : Hx G A (WBK G ad σ) sS.heap H locs := hH
    replace hl : lv_has ls 4 [(0, .ref (ad 0)), (1, .long (whl i)), (3, .int (nI i))] := hl
    refine lv_iload_n hx hb dX2_wholeWeight_4 rfl (lv_at hl 2 rfl) ?_
    refine lv_aload_n hx hb dX2_wholeWeight_5 rfl (lv_at hl 0 rfl) ?_
    refine gf_X2_21 (v := .int (σ 0 3)) hC hK hH 0 rfl rfl dX2_wholeWeight_6 ?_
    refine x_topE (y := (nI h)) hb3 ?_
    refine lv_icmp_ge (tgt := 24) hx hb dX2_wholeWeight_9 (by decide) (fun c9 => ?_) (fun c9 => ?_)
    · have ge_i := lp_out (n := h) rfl (by omega) (by omega) c9
      have eq_i : i = h := by omega
      refine lv_lload_n hx hb dX2_wholeWeight_24 rfl (lv_at hl 1 rfl) ?_
      exact x_lret hC hr hkL hH (by rw [eq_i]) rfl dX2_wholeWeight_25
    · have lt_i := lp_in (n := h) rfl (by omega) (by omega) c9
      refine lv_lload_n hx hb dX2_wholeWeight_12 rfl (lv_at hl 1 rfl) ?_
      refine lv_ldc2 (v := 100) hx hb hC.2.2.2.1 (hC.2.2.2.2 _ wd_619) dX2_wholeWeight_13 ?_
      refine lv_lmul hx hb dX2_wholeWeight_16 ?_
      refine lv_lstore_n (lv' := [(1, .long ((whl i) * (100 : Int64))), (0, .ref (ad 0)), (3, .int (nI i))]) hx hb dX2_wholeWeight_17 rfl hl (by decide) rfl (fun ls hl => ?_)
      refine lv_iinc (v := ((nI i) + 1)) (lv' := [(3, .int ((nI i) + 1)), (1, .long ((whl i) * (100 : Int64))), (0, .ref (ad 0))]) hx hb dX2_wholeWeight_18 hl (k := 2) rfl rfl (by decide) rfl (fun ls hl => ?_)
      refine lv_goto (tgt := 4) hx hb dX2_wholeWeight_21 (by decide) ?_
      exact ih_i (i + 1) (show (i + 1) ≤ h from (by omega)) (show h - (i + 1) < h - i from (by omega)) _ _ _ (hH.eq rfl) (lv_eq (lv_sub hl [2, 1, 0] rfl) (lc_s (lc_l (by first | exact nI_1 _ | rfl : ((whl i) * (100 : Int64)) = (whl (i + 1))) (lc_i (by first | exact nI_1 _ | rfl : ((nI i) + 1) = (nI (i + 1))) rfl))))
  · exact hH.eq rfl
  · exact lv_eq (lv_sub hl [2, 1, 0] rfl) (lc_s (lc_l (by rfl : (1 : Int64) = (whl 0)) (lc_i (by rfl : 0 = (nI 0)) rfl)))
set_option maxHeartbeats 4000000 in
set_option maxRecDepth 100000 in
theorem k_X2_takeFrom (l : Launch) (G : GP) (ad : Nat → Nat) (σ : Nat → Nat → Int32) : CT l G yX2_takeFrom cX2_takeFrom 2 none 1 [.ref (ad 0), .ref (ad 4)] (WBB G ad σ) none (WBB G ad (ua (ua (ua (ua σ 0 (upd (upd (σ 0) 3 (σ 4 3)) 4 (σ 4 4))) 1 (σ 5)) 2 (σ 6)) 3 (σ 7))) := by
  refine x_meth "BetsOnBets$Book" rfl (by decide +kernel) (by rfl) (Nat.le_of_ble_eq_true rfl) ?_
  intro pP eE sS mM args below meth cC A ls hC hr hkL hK hZ hA hH hl
  have hx := hC.1
  have hb := hC.2.1
  have hl : lv_has ls 2 [(0, .ref (ad 0)), (1, .ref (ad 4))] := hl
  refine lv_aload_n hx hb dX2_takeFrom_0 rfl (lv_at hl 1 rfl) ?_
  refine gf_X2_9 (v := .ref (ad 5)) hC hK hH 4 rfl rfl dX2_takeFrom_1 ?_
  refine lv_aload_n hx hb dX2_takeFrom_4 rfl (lv_at hl 0 rfl) ?_
  refine gf_X2_9 (v := .ref (ad 1)) hC hK hH 0 rfl rfl dX2_takeFrom_5 ?_
  refine x_callN (ws' := WBB G ad (ua σ 1 (σ 5))) (As := [.ref (ad 5), .ref (ad 1)]) (rest := []) (st' := []) hC hK hZ hA hl.1 hH (k_X11_copy l G 4 (pk ad [5, 1]) (pk σ [5, 1]) (by decide)) lk_X2_32 [5, 1] rfl rfl rfl rfl ⟨Nat.le_of_ble_eq_true rfl, Nat.le_of_ble_eq_true rfl⟩ ⟨Nat.le_refl _, Nat.le_refl _⟩ (Nat.le_of_ble_eq_true rfl) rfl dX2_takeFrom_8 (fun H locs hH => ?_)
  refine lv_aload_n hx hb dX2_takeFrom_11 rfl (lv_at hl 1 rfl) ?_
  refine gf_X2_15 (v := .ref (ad 6)) hC hK hH 4 rfl rfl dX2_takeFrom_12 ?_
  refine lv_aload_n hx hb dX2_takeFrom_15 rfl (lv_at hl 0 rfl) ?_
  refine gf_X2_15 (v := .ref (ad 2)) hC hK hH 0 rfl rfl dX2_takeFrom_16 ?_
  refine x_callN (ws' := WBB G ad (ua (ua σ 1 (σ 5)) 2 (σ 6))) (As := [.ref (ad 6), .ref (ad 2)]) (rest := []) (st' := []) hC hK hZ hA hl.1 hH (k_X11_copy l G 42 (pk ad [6, 2]) (pk (ua σ 1 (σ 5)) [6, 2]) (by decide)) lk_X2_32 [6, 2] rfl rfl rfl rfl ⟨Nat.le_of_ble_eq_true rfl, Nat.le_of_ble_eq_true rfl⟩ ⟨Nat.le_refl _, Nat.le_refl _⟩ (Nat.le_of_ble_eq_true rfl) rfl dX2_takeFrom_19 (fun H locs hH => ?_)
  refine lv_aload_n hx hb dX2_takeFrom_22 rfl (lv_at hl 1 rfl) ?_
  refine gf_X2_18 (v := .ref (ad 7)) hC hK hH 4 rfl rfl dX2_takeFrom_23 ?_
  refine lv_aload_n hx hb dX2_takeFrom_26 rfl (lv_at hl 0 rfl) ?_
  refine gf_X2_18 (v := .ref (ad 3)) hC hK hH 0 rfl rfl dX2_takeFrom_27 ?_
  refine x_callN (ws' := WBB G ad (ua (ua (ua σ 1 (σ 5)) 2 (σ 6)) 3 (σ 7))) (As := [.ref (ad 7), .ref (ad 3)]) (rest := []) (st' := []) hC hK hZ hA hl.1 hH (k_X11_copy l G 4 (pk ad [7, 3]) (pk (ua (ua σ 1 (σ 5)) 2 (σ 6)) [7, 3]) (by decide)) lk_X2_32 [7, 3] rfl rfl rfl rfl ⟨Nat.le_of_ble_eq_true rfl, Nat.le_of_ble_eq_true rfl⟩ ⟨Nat.le_refl _, Nat.le_refl _⟩ (Nat.le_of_ble_eq_true rfl) rfl dX2_takeFrom_30 (fun H locs hH => ?_)
  refine lv_aload_n hx hb dX2_takeFrom_33 rfl (lv_at hl 0 rfl) ?_
  refine lv_aload_n hx hb dX2_takeFrom_34 rfl (lv_at hl 1 rfl) ?_
  refine gf_X2_21 (v := .int (σ 4 3)) hC hK hH 4 rfl rfl dX2_takeFrom_35 ?_
  refine pf_X2_21 (ws' := WBB G ad (ua (ua (ua (ua σ 0 (upd (σ 0) 3 (σ 4 3))) 1 (σ 5)) 2 (σ 6)) 3 (σ 7))) hC hK hH 0 rfl rfl rfl (Nat.le_of_ble_eq_true rfl) dX2_takeFrom_38 rfl (fun H locs hH => ?_)
  refine lv_aload_n hx hb dX2_takeFrom_41 rfl (lv_at hl 0 rfl) ?_
  refine lv_aload_n hx hb dX2_takeFrom_42 rfl (lv_at hl 1 rfl) ?_
  refine gf_X2_25 (v := .int (σ 4 4)) hC hK hH 4 rfl rfl dX2_takeFrom_43 ?_
  refine pf_X2_25 (ws' := WBB G ad (ua (ua (ua (ua σ 0 (upd (upd (σ 0) 3 (σ 4 3)) 4 (σ 4 4))) 1 (σ 5)) 2 (σ 6)) 3 (σ 7))) hC hK hH 0 rfl rfl rfl (Nat.le_of_ble_eq_true rfl) dX2_takeFrom_46 rfl (fun H locs hH => ?_)
  exact x_vret hC hr hkL hH rfl dX2_takeFrom_49
