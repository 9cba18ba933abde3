/-! the class: purses, means, ends -/
def WO (β : Bk) (Wn Op : Nat → Int32) : Prop := ∀ e, e < 2 ^ bH β → ∀ b, b < bK β → stW (Wn e) (Op e) (nI b) = stP β (nI e) b
def WyE (β : Bk) (Mn Fs Wn Op : Nat → Int32) : Prop := ∀ e, e < 2 ^ bH β → Mn e = wyM β e ∧ Fs e = wyF β e ∧ Wn e = wyW β e ∧ Op e = wyO β e
def BH (β : Bk) : Prop := ∀ b, b < bK β → ¬ nm β b 5 = nm β b 6
def PB (β : Bk) : Prop := ∀ (p : Int32) (e : Nat), e < 2 ^ bH β → -100000 ≤ (purA β p (nI e)).toInt ∧ (purA β p (nI e)).toInt ≤ 100000
def gnP (st stake odds : Int32) : Int32 := if st = 1 then stake * odds else if st = 0 then -stake else 0
theorem gnP_1 {st a b : Int32} (h : st = 1) : gnP st a b = a * b := if_pos h
theorem gnP_0 {st a b : Int32} (h : st = 0) : gnP st a b = -a := by rw [gnP, if_neg (by rw [h]; decide), if_pos h]
theorem gnP_d {st a b : Int32} (h : ¬ st = 0) (h1 : ¬ st = 1) : gnP st a b = 0 := by rw [gnP, if_neg h1, if_neg h]
theorem sw2 (x : Int32) : x = 0 ∨ x = 1 ∨ (¬ x = 0 ∧ ¬ x = 1) := by
  by_cases h : x = 0
  · exact Or.inl h
  by_cases h1 : x = 1
  · exact Or.inr (Or.inl h1)
  · exact Or.inr (Or.inr ⟨h, h1⟩)
theorem purR_s (β : Bk) (p e : Int32) (b : Nat) : purR β p e (b + 1) = purR β p e b + dltR β p e b := rfl
theorem st_b {β : Bk} {p e : Int32} {b : Nat} (h5 : nm β b 5 = p) : purR β p e b + gnP (stP β e b) (nm β b 3) (nm β b 4) = purR β p e (b + 1) := by
  rw [purR_s, dltR, gnP, sideR, if_pos h5]
  congr 1
  split
  · rw [Int32.one_mul]
  · split
    · rw [Int32.neg_mul, Int32.one_mul]
    · rfl
theorem st_h {β : Bk} {p e : Int32} {b : Nat} (h5 : ¬ nm β b 5 = p) (h6 : nm β b 6 = p) : purR β p e b - gnP (stP β e b) (nm β b 3) (nm β b 4) = purR β p e (b + 1) := by
  rw [purR_s, dltR, gnP, sideR, if_neg h5, if_pos h6, Int32.sub_eq_add_neg]
  congr 1
  split
  · rw [Int32.neg_mul, Int32.neg_mul, Int32.one_mul]
  · split
    · rw [Int32.neg_neg, Int32.neg_neg, Int32.one_mul]
    · rfl
theorem st_n {β : Bk} {p e : Int32} {b : Nat} (h5 : ¬ nm β b 5 = p) (h6 : ¬ nm β b 6 = p) : purR β p e b = purR β p e (b + 1) := by
  rw [purR_s, dltR, sideR, if_neg h5, if_neg h6]
  split
  · rw [Int32.zero_mul, Int32.zero_mul, Int32.add_zero]
  · split
    · rw [Int32.neg_zero, Int32.zero_mul, Int32.add_zero]
    · rw [Int32.add_zero]
theorem lcw : ∀ h, h < 5 → lg_cmp (whl h) 0 = 1 := by decide
theorem ng_le {x y : Int32} (hx : -100000 ≤ x.toInt ∧ x.toInt ≤ 100000) (hy : -100000 ≤ y.toInt ∧ y.toInt ≤ 100000) : (-1) * x ≤ (-1) * y ↔ y ≤ x := by
  have e : ∀ z : Int32, -100000 ≤ z.toInt ∧ z.toInt ≤ 100000 → ((-1) * z).toInt = -z.toInt := by
    intro z hz
    rw [Int32.neg_mul, Int32.one_mul, Int32.toInt_neg]
    exact Int.bmod_eq_of_le (by omega) (by omega)
  rw [Int32.le_iff_toInt_le, Int32.le_iff_toInt_le, e x hx, e y hy]
  omega
theorem ps_le {x y : Int32} : 1 * x ≤ 1 * y ↔ x ≤ y := by rw [Int32.one_mul, Int32.one_mul]
theorem wEnd_lt (β : Bk) (p : Int32) : ∀ e, 0 < e → wEnd β p e < e := by
  intro e
  induction e with
  | zero => intro h; exact absurd h (by omega)
  | succ e ih =>
    intro _
    rw [wEnd]
    split
    · omega
    · cases e with
      | zero => exact Nat.zero_lt_one
      | succ e => have := ih (by omega); omega
theorem bEnd_lt (β : Bk) (p : Int32) : ∀ e, 0 < e → bEnd β p e < e := by
  intro e
  induction e with
  | zero => intro h; exact absurd h (by omega)
  | succ e ih =>
    intro _
    rw [bEnd]
    split
    · omega
    · cases e with
      | zero => exact Nat.zero_lt_one
      | succ e => have := ih (by omega); omega
set_option maxHeartbeats 4000000 in
set_option maxRecDepth 100000 in
theorem k_X11_refused (l : Launch) (G : GP) (ad : Nat → Nat) (σ : Nat → Nat → Int32) (code : Int32) (j : Nat) (hj : -code = nI j) (hj7 : j < 7) : CT l G yX11_refused cX11_refused 2 (some .int) 1 [.ref (ad 0), .int code] (WC G ad σ) (some (.int code)) (WC G ad (ua σ 31 (upd (σ 31) j ((σ 31) j + 1)))) := by
  refine x_meth "BetsOnBets" rfl (by decide +kernel) (by rfl) (Nat.le_of_ble_eq_true rfl) ?_
  intro pP eE sS mM args below meth cC A ls hC hr hkL hK hZ hA hH hl
  have hx := hC.1
  have hb := hC.2.1
  have hl : lv_has ls 2 [(0, .ref (ad 0)), (1, .int code)] := hl
  refine lv_aload_n hx hb dX11_refused_0 rfl (lv_at hl 0 rfl) ?_
  refine gf_X11_45 (v := .ref (ad 31)) hC hK hH 0 rfl rfl dX11_refused_1 ?_
  refine lv_iload_n hx hb dX11_refused_4 rfl (lv_at hl 1 rfl) ?_
  refine lv_ineg hx hb dX11_refused_5 ?_
  refine lv_aload_n hx hb dX11_refused_6 rfl (lv_at hl 0 rfl) ?_
  refine gf_X11_45 (v := .ref (ad 31)) hC hK hH 0 rfl rfl dX11_refused_7 ?_
  refine lv_iload_n hx hb dX11_refused_10 rfl (lv_at hl 1 rfl) ?_
  refine lv_ineg hx hb dX11_refused_11 ?_
  refine x_callS (ws' := WC G ad σ) (As := [.ref (ad 31), .int (-code)]) (rest := [.int (-code), .ref (ad 31)]) (st' := [.int (atF (σ 31) 7 (-code)), .int (-code), .ref (ad 31)]) hC hK hZ hA hl.1 hH (k_X11_at l G 7 (pk ad [31]) (pk σ [31]) (-code) (by decide)) lk_X11_173 [31] rfl rfl rfl rfl ⟨Nat.le_of_ble_eq_true rfl, Nat.le_of_ble_eq_true rfl⟩ ⟨Nat.le_refl _, Nat.le_refl _⟩ (Nat.le_of_ble_eq_true rfl) rfl dX11_refused_12 (fun H locs hH => ?_)
  refine x_topE (y := ((σ 31) j)) (atF_in hj hj7 (by decide)) ?_
  refine lv_iconst (v := 1) hx hb dX11_refused_15 (by decide) ?_
  refine lv_iadd hx hb dX11_refused_16 ?_
  refine x_callS (ws' := WC G ad (ua σ 31 (putF (σ 31) 7 (-code) (((σ 31) j) + 1)))) (As := [.ref (ad 31), .int (-code), .int (((σ 31) j) + 1)]) (rest := []) (st' := []) hC hK hZ hA hl.1 hH (k_X11_put l G 7 (pk ad [31]) (pk σ [31]) (-code) (((σ 31) j) + 1) (by decide)) lk_X11_169 [31] rfl rfl rfl rfl ⟨Nat.le_of_ble_eq_true rfl, Nat.le_of_ble_eq_true rfl⟩ ⟨Nat.le_refl _, Nat.le_refl _⟩ (Nat.le_of_ble_eq_true rfl) rfl dX11_refused_17 (fun H locs hH => ?_)
  replace hH : Hx G A (WC G ad (ua σ 31 (upd (σ 31) j ((σ 31) j + 1)))) sS.heap H locs := hH.eq (congrArg (fun z_ : Nat → Int32 => WC G ad (ua σ 31 z_)) (by exact putF_in hj hj7 (by decide) : (putF (σ 31) 7 (-code) (((σ 31) j) + 1)) = (upd (σ 31) j ((σ 31) j + 1))))
  refine lv_iload_n hx hb dX11_refused_20 rfl (lv_at hl 1 rfl) ?_
  exact x_iret hC hr hkL hH rfl rfl dX11_refused_21
set_option maxHeartbeats 4000000 in
set_option maxRecDepth 100000 in
theorem k_X11_refusedFar (l : Launch) (G : GP) (ad : Nat → Nat) (σ : Nat → Nat → Int32) (code : Int32) (j : Nat) (hj : -code = nI j) (hj7 : j < 7) : CT l G yX11_refusedFar cX11_refusedFar 2 (some .int) 2 [.ref (ad 0), .int code] (WC G ad σ) (some (.int (1000000000 - code))) (WC G ad (ua σ 31 (upd (σ 31) j ((σ 31) j + 1)))) := by
  refine x_meth "BetsOnBets" rfl (by decide +kernel) (by rfl) (Nat.le_of_ble_eq_true rfl) ?_
  intro pP eE sS mM args below meth cC A ls hC hr hkL hK hZ hA hH hl
  have hx := hC.1
  have hb := hC.2.1
  have hl : lv_has ls 2 [(0, .ref (ad 0)), (1, .int code)] := hl
  refine lv_ldc (v := 1000000000) hx hb hC.2.2.2.1 (hC.2.2.2.2 _ wd_588) dX11_refusedFar_0 ?_
  refine lv_aload_n hx hb dX11_refusedFar_2 rfl (lv_at hl 0 rfl) ?_
  refine lv_iload_n hx hb dX11_refusedFar_3 rfl (lv_at hl 1 rfl) ?_
  refine x_callVA (ws' := WC G ad (ua σ 31 (upd (σ 31) j ((σ 31) j + 1)))) (As := [.int code]) (rest := [.int 1000000000]) (st' := [.int code, .int 1000000000]) hC hK hZ hA hl.1 hH (k_X11_refused l G ad σ code j hj hj7) lk_X11_80 rfl 0 10 rfl rfl rfl ⟨Nat.le_of_ble_eq_true rfl, Nat.le_of_ble_eq_true rfl⟩ ⟨Nat.le_refl _, Nat.le_refl _⟩ (Nat.le_of_ble_eq_true rfl) rfl dX11_refusedFar_4 (fun H locs hH => ?_)
  refine lv_isub hx hb dX11_refusedFar_7 ?_
  exact x_iret hC hr hkL hH rfl rfl dX11_refusedFar_8
set_option maxHeartbeats 4000000 in
set_option maxRecDepth 100000 in
theorem k_X11_inHundredths (l : Launch) (G : GP) (ad : Nat → Nat) (σ : Nat → Nat → Int32) (w : Int64) (h : Nat) (k : Nat) (hb3 : (σ 0 3) = nI h) (hb4 : (σ 0 4) = nI k) (hh4 : h ≤ 4) (hk6 : k ≤ 6) : CT l G yX11_inHundredths cX11_inHundredths 5 (some .int) 1 [.ref (ad 0), .long w] (WBK G ad σ) (some (.int (((w * 100) / whl h).toInt32))) (WBK G ad σ) := by
  refine x_meth "BetsOnBets" rfl (by decide +kernel) (by rfl) (Nat.le_of_ble_eq_true rfl) ?_
  intro pP eE sS mM args below meth cC A ls hC hr hkL hK hZ hA hH hl
  have hx := hC.1
  have hb := hC.2.1
  have hl : lv_has ls 5 [(0, .ref (ad 0)), (1, .long w)] := hl
  refine lv_aload_n hx hb dX11_inHundredths_0 rfl (lv_at hl 0 rfl) ?_
  refine x_callVA (ws' := WBK G ad σ) (As := []) (rest := []) (st' := [.long (whl h)]) hC hK hZ hA hl.1 hH (k_X2_wholeWeight l G ad σ h k hb3 hb4 hh4 hk6) lk_X11_232 rfl 0 1 rfl rfl rfl ⟨Nat.le_of_ble_eq_true rfl, Nat.le_of_ble_eq_true rfl⟩ ⟨Nat.le_refl _, Nat.le_refl _⟩ (Nat.le_of_ble_eq_true rfl) rfl dX11_inHundredths_1 (fun H locs hH => ?_)
  refine lv_lstore_n (lv' := [(3, .long (whl h)), (0, .ref (ad 0)), (1, .long w)]) hx hb dX11_inHundredths_4 rfl hl (by decide) rfl (fun ls hl => ?_)
  refine lv_lload_n hx hb dX11_inHundredths_5 rfl (lv_at hl 0 rfl) ?_
  refine lv_lconst (v := 0) hx hb dX11_inHundredths_6 (by decide) ?_
  refine W.lcmp hx hb dX11_inHundredths_7 ?_
  refine x_topE (y := 1) (lcw _ (by omega)) ?_
  refine lv_if_le (tgt := 22) hx hb dX11_inHundredths_8 (by decide) (fun c8 => ?_) (fun c8 => ?_)
  · exact absurd c8 (by decide)
  refine lv_lload_n hx hb dX11_inHundredths_11 rfl (lv_at hl 2 rfl) ?_
  refine lv_ldc2 (v := 100) hx hb hC.2.2.2.1 (hC.2.2.2.2 _ wd_620) dX11_inHundredths_12 ?_
  refine lv_lmul hx hb dX11_inHundredths_15 ?_
  refine lv_lload_n hx hb dX11_inHundredths_16 rfl (lv_at hl 0 rfl) ?_
  refine lv_ldiv hx hb dX11_inHundredths_17 (whl_ne _ (by omega)) ?_
  refine lv_l2i (v := (((w * (100 : Int64)) / (whl h)).toInt32)) hx hb dX11_inHundredths_18 rfl ?_
  refine lv_goto (tgt := 23) hx hb dX11_inHundredths_19 (by decide) ?_
  exact x_iret hC hr hkL hH (by first | rfl | simp) rfl dX11_inHundredths_23
set_option maxHeartbeats 4000000 in
set_option maxRecDepth 100000 in
theorem k_X11_bettorsGain_t (l : Launch) (G : GP) (ad : Nat → Nat) (σ : Nat → Nat → Int32) (b : Int32) (e : Int32) (bj : Nat) (ej : Nat) (hbN : b = nI bj) (hbk : bj < 6) (he : e = nI ej) (he16 : ej < 16) : CT l G yX11_bettorsGain cX11_bettorsGain 5 (some .int) 2 [.ref (ad 0), .ref (ad 7), .int b, .int e] (WC G ad σ) (some (.int (gnP (stW ((σ 23) ej) ((σ 24) ej) b) ((σ 9) (7 * bj + 3)) ((σ 9) (7 * bj + 4))))) (WC G ad σ) := by
  refine x_meth "BetsOnBets" rfl (by decide +kernel) (by rfl) (Nat.le_of_ble_eq_true rfl) ?_
  intro pP eE sS mM args below meth cC A ls hC hr hkL hK hZ hA hH hl
  have hx := hC.1
  have hb := hC.2.1
  have hl : lv_has ls 5 [(0, .ref (ad 0)), (1, .ref (ad 7)), (2, .int b), (3, .int e)] := hl
  refine lv_aload_n hx hb dX11_bettorsGain_0 rfl (lv_at hl 1 rfl) ?_
  refine lv_iload_n hx hb dX11_bettorsGain_1 rfl (lv_at hl 2 rfl) ?_
  refine lv_iconst (v := 3) hx hb dX11_bettorsGain_2 (by decide) ?_
  refine x_callV (ws' := WC G ad σ) (As := [.int b, .int 3]) (rest := []) (st' := [.int ((σ 9) (7 * bj + 3))]) hC hK hZ hA hl.1 hH (k_X2_numberOf l G (pk ad [7, 8, 9, 10]) (pk σ [7, 8, 9, 10]) b 3 bj 3 hbN rfl hbk (by decide)) lk_X11_91 [7, 8, 9, 10] rfl rfl rfl 7 1 rfl rfl rfl ⟨Nat.le_of_ble_eq_true rfl, Nat.le_of_ble_eq_true rfl⟩ ⟨Nat.le_refl _, Nat.le_refl _⟩ (Nat.le_of_ble_eq_true rfl) rfl dX11_bettorsGain_3 (fun H locs hH => ?_)
  refine lv_istore (lv' := [(4, .int ((σ 9) (7 * bj + 3))), (0, .ref (ad 0)), (1, .ref (ad 7)), (2, .int b), (3, .int e)]) hx hb dX11_bettorsGain_6 hl (by decide) rfl (fun ls hl => ?_)
  refine lv_aload_n hx hb dX11_bettorsGain_8 rfl (lv_at hl 1 rfl) ?_
  refine gf_X11_41 (v := .ref (ad 19)) hC hK hH 0 rfl rfl dX11_bettorsGain_9 ?_
  refine lv_iload_n hx hb dX11_bettorsGain_12 rfl (lv_at hl 3 rfl) ?_
  refine lv_iload_n hx hb dX11_bettorsGain_13 rfl (lv_at hl 4 rfl) ?_
  refine x_callV (ws' := WC G ad σ) (As := [.int b, .int e]) (rest := []) (st' := [.int (stW ((σ 23) ej) ((σ 24) ej) b)]) hC hK hZ hA hl.1 hH (k_X10_standingOf l G (pk ad [19, 20, 21, 22, 23, 24, 25, 26, 27, 28, 29, 30]) (pk σ [19, 20, 21, 22, 23, 24, 25, 26, 27, 28, 29, 30]) b e ej he he16) lk_X11_118 [19, 20, 21, 22, 23, 24, 25, 26, 27, 28, 29, 30] rfl rfl rfl 19 9 rfl rfl rfl ⟨Nat.le_of_ble_eq_true rfl, Nat.le_of_ble_eq_true rfl⟩ ⟨Nat.le_refl _, Nat.le_refl _⟩ (Nat.le_of_ble_eq_true rfl) rfl dX11_bettorsGain_14 (fun H locs hH => ?_)
  rcases sw2 (stW ((σ 23) ej) ((σ 24) ej) b) with h0 | h1 | hd
  · refine x_topE (y := 0) h0 ?_
    refine lv_lookup (tgt := 54) hx hb dX11_bettorsGain_17 (by decide) rfl (by decide) ?_
    refine lv_iload hx hb dX11_bettorsGain_54 (lv_at hl 0 rfl) ?_
    refine lv_ineg hx hb dX11_bettorsGain_56 ?_
    exact x_iret hC hr hkL hH (by exact gnP_0 h0) rfl dX11_bettorsGain_57
  · refine x_topE (y := 1) h1 ?_
    refine lv_lookup (tgt := 44) hx hb dX11_bettorsGain_17 (by decide) rfl (by decide) ?_
    refine lv_iload hx hb dX11_bettorsGain_44 (lv_at hl 0 rfl) ?_
    refine lv_aload_n hx hb dX11_bettorsGain_46 rfl (lv_at hl 2 rfl) ?_
    refine lv_iload_n hx hb dX11_bettorsGain_47 rfl (lv_at hl 3 rfl) ?_
    refine lv_iconst (v := 4) hx hb dX11_bettorsGain_48 (by decide) ?_
    refine x_callV (ws' := WC G ad σ) (As := [.int b, .int 4]) (rest := [.int ((σ 9) (7 * bj + 3))]) (st' := [.int ((σ 9) (7 * bj + 4)), .int ((σ 9) (7 * bj + 3))]) hC hK hZ hA hl.1 hH (k_X2_numberOf l G (pk ad [7, 8, 9, 10]) (pk σ [7, 8, 9, 10]) b 4 bj 4 hbN rfl hbk (by decide)) lk_X11_91 [7, 8, 9, 10] rfl rfl rfl 7 1 rfl rfl rfl ⟨Nat.le_of_ble_eq_true rfl, Nat.le_of_ble_eq_true rfl⟩ ⟨Nat.le_refl _, Nat.le_refl _⟩ (Nat.le_of_ble_eq_true rfl) rfl dX11_bettorsGain_49 (fun H locs hH => ?_)
    refine lv_imul hx hb dX11_bettorsGain_52 ?_
    exact x_iret hC hr hkL hH (by exact gnP_1 h1) rfl dX11_bettorsGain_53
  · refine lv_lookup (off := 41) (tgt := 58) hx hb dX11_bettorsGain_17 (by decide) (by show Op.lookupswitch.offset [(0, 37), (1, 27)] 41 _ = _; rw [lv_osw hd.1 (show Int32.toInt 0 = 0 from rfl), lv_osw hd.2 (show Int32.toInt 1 = 1 from rfl)]; rfl) (by decide) ?_
    refine lv_iconst (v := 0) hx hb dX11_bettorsGain_58 (by decide) ?_
    exact x_iret hC hr hkL hH (by exact gnP_d hd.1 hd.2) rfl dX11_bettorsGain_59
set_option maxHeartbeats 4000000 in
set_option maxRecDepth 100000 in
theorem k_X11_purseOf_t (l : Launch) (G : GP) (ad : Nat → Nat) (σ : Nat → Nat → Int32) (p : Int32) (e : Int32) (h : Nat) (k : Nat) (ej : Nat) (hb3 : (σ 7 3) = nI h) (hb4 : (σ 7 4) = nI k) (hh4 : h ≤ 4) (hk6 : k ≤ 6) (hwo : WO (bk h k (σ 8) (σ 9) (σ 10)) (σ 23) (σ 24)) (hbh : BH (bk h k (σ 8) (σ 9) (σ 10))) (he : e = nI ej) (he2 : ej < 2 ^ h) : CT l G yX11_purseOf cX11_purseOf 7 (some .int) 3 [.ref (ad 0), .ref (ad 7), .int p, .int e] (WC G ad σ) (some (.int (purA (bk h k (σ 8) (σ 9) (σ 10)) p e))) (WC G ad σ) := by
  refine x_meth "BetsOnBets" rfl (by decide +kernel) (by rfl) (Nat.le_of_ble_eq_true rfl) ?_
  intro pP eE sS mM args below meth cC A ls hC hr hkL hK hZ hA hH hl
  have hx := hC.1
  have hb := hC.2.1
  have hl : lv_has ls 7 [(0, .ref (ad 0)), (1, .ref (ad 7)), (2, .int p), (3, .int e)] := hl
  have pwh := pw4 hh4
  have pwk := pw6 hk6
  have ph1 := Nat.one_le_two_pow (n := h)
  refine lv_iconst (v := 0) hx hb dX11_purseOf_0 (by decide) ?_
  refine lv_istore (lv' := [(4, .int 0), (0, .ref (ad 0)), (1, .ref (ad 7)), (2, .int p), (3, .int e)]) hx hb dX11_purseOf_1 hl (by decide) rfl (fun ls hl => ?_)
  refine lv_iconst (v := 0) hx hb dX11_purseOf_3 (by decide) ?_
  refine lv_istore (lv' := [(5, .int 0), (4, .int 0), (0, .ref (ad 0)), (1, .ref (ad 7)), (2, .int p), (3, .int e)]) hx hb dX11_purseOf_4 hl (by decide) rfl (fun ls hl => ?_)
  refine x_loop (G := G) (A := A) (H0 := sS.heap) (nL := 7) (α := Nat) (fun q_ => k - q_) (fun q_ => q_ ≤ k) (fun q_ => WC G ad σ) (fun q_ => [(0, .ref (ad 0)), (1, .ref (ad 7)), (2, .int p), (3, .int e), (4, .int (purR (bk h k (σ 8) (σ 9) (σ 10)) p e q_)), (5, .int (nI q_))]) ?_ 0 (show 0 ≤ k from (Nat.zero_le _)) ?_ ?_
  · rintro b hi_b ih_b H locs ls hH hl
    replace hi_b : b ≤ k := hi_b
    replace hH : Hx G A (WC G ad σ) sS.heap H locs := hH
    replace hl : lv_has ls 7 [(0, .ref (ad 0)), (1, .ref (ad 7)), (2, .int p), (3, .int e), (4, .int (purR (bk h k (σ 8) (σ 9) (σ 10)) p e b)), (5, .int (nI b))] := hl
    refine lv_iload hx hb dX11_purseOf_6 (lv_at hl 5 rfl) ?_
    refine lv_aload_n hx hb dX11_purseOf_8 rfl (lv_at hl 1 rfl) ?_
    refine gf_X11_160 (v := .int (σ 7 4)) hC hK hH 7 rfl rfl dX11_purseOf_9 ?_
    refine x_topE (y := (nI k)) hb4 ?_
    refine lv_icmp_ge (tgt := 68) hx hb dX11_purseOf_12 (by decide) (fun c12 => ?_) (fun c12 => ?_)
    · have ge_b := lp_out (n := k) rfl (by omega) (by omega) c12
      have eq_b : b = k := by omega
      refine lv_iload hx hb dX11_purseOf_68 (lv_at hl 4 rfl) ?_
      exact x_iret hC hr hkL hH (by rw [eq_b]; rfl) rfl dX11_purseOf_70
    · have lt_b := lp_in (n := k) rfl (by omega) (by omega) c12
      refine lv_aload_n hx hb dX11_purseOf_15 rfl (lv_at hl 0 rfl) ?_
      refine lv_aload_n hx hb dX11_purseOf_16 rfl (lv_at hl 1 rfl) ?_
      refine lv_iload hx hb dX11_purseOf_17 (lv_at hl 5 rfl) ?_
      refine lv_iload_n hx hb dX11_purseOf_19 rfl (lv_at hl 3 rfl) ?_
      refine x_callVA (ws' := WC G ad σ) (As := [.ref (ad 7), .int (nI b), .int e]) (rest := []) (st' := [.int (gnP (stW ((σ 23) ej) ((σ 24) ej) (nI b)) ((σ 9) (7 * b + 3)) ((σ 9) (7 * b + 4)))]) hC hK hZ hA hl.1 hH (k_X11_bettorsGain_t l G ad σ (nI b) e b ej rfl (by omega) he (by omega)) lk_X11_229 rfl 0 10 rfl rfl rfl ⟨Nat.le_of_ble_eq_true rfl, Nat.le_of_ble_eq_true rfl⟩ ⟨Nat.le_refl _, Nat.le_refl _⟩ (Nat.le_of_ble_eq_true rfl) rfl dX11_purseOf_20 (fun H locs hH => ?_)
      refine x_topE (y := (gnP (stP (bk h k (σ 8) (σ 9) (σ 10)) e b) (nm (bk h k (σ 8) (σ 9) (σ 10)) b 3) (nm (bk h k (σ 8) (σ 9) (σ 10)) b 4))) (by rw [hwo ej he2 b (show b < bK _ from lt_b), ← he]; rfl) ?_
      refine lv_istore (lv' := [(6, .int (gnP (stP (bk h k (σ 8) (σ 9) (σ 10)) e b) (nm (bk h k (σ 8) (σ 9) (σ 10)) b 3) (nm (bk h k (σ 8) (σ 9) (σ 10)) b 4))), (0, .ref (ad 0)), (1, .ref (ad 7)), (2, .int p), (3, .int e), (4, .int (purR (bk h k (σ 8) (σ 9) (σ 10)) p e b)), (5, .int (nI b))]) hx hb dX11_purseOf_23 hl (by decide) rfl (fun ls hl => ?_)
      refine lv_aload_n hx hb dX11_purseOf_25 rfl (lv_at hl 2 rfl) ?_
      refine lv_iload hx hb dX11_purseOf_26 (lv_at hl 6 rfl) ?_
      refine lv_iconst (v := 5) hx hb dX11_purseOf_28 (by decide) ?_
      refine x_callV (ws' := WC G ad σ) (As := [.int (nI b), .int 5]) (rest := []) (st' := [.int ((σ 9) (7 * b + 5))]) hC hK hZ hA hl.1 hH (k_X2_numberOf l G (pk ad [7, 8, 9, 10]) (pk σ [7, 8, 9, 10]) (nI b) 5 b 5 rfl rfl (by omega) (by decide)) lk_X11_91 [7, 8, 9, 10] rfl rfl rfl 7 1 rfl rfl rfl ⟨Nat.le_of_ble_eq_true rfl, Nat.le_of_ble_eq_true rfl⟩ ⟨Nat.le_refl _, Nat.le_refl _⟩ (Nat.le_of_ble_eq_true rfl) rfl dX11_purseOf_29 (fun H locs hH => ?_)
      refine x_topE (y := (nm (bk h k (σ 8) (σ 9) (σ 10)) b 5)) rfl ?_
      refine lv_iload_n hx hb dX11_purseOf_32 rfl (lv_at hl 3 rfl) ?_
      refine lv_icmp_ne (tgt := 43) hx hb dX11_purseOf_33 (by decide) (fun c33 => ?_) (fun c33 => ?_)
      · refine lv_aload_n hx hb dX11_purseOf_43 rfl (lv_at hl 2 rfl) ?_
        refine lv_iload hx hb dX11_purseOf_44 (lv_at hl 6 rfl) ?_
        refine lv_bipush (v := 6) hx hb dX11_purseOf_46 (by decide) ?_
        refine x_callV (ws' := WC G ad σ) (As := [.int (nI b), .int 6]) (rest := []) (st' := [.int ((σ 9) (7 * b + 6))]) hC hK hZ hA hl.1 hH (k_X2_numberOf l G (pk ad [7, 8, 9, 10]) (pk σ [7, 8, 9, 10]) (nI b) 6 b 6 rfl rfl (by omega) (by decide)) lk_X11_91 [7, 8, 9, 10] rfl rfl rfl 7 1 rfl rfl rfl ⟨Nat.le_of_ble_eq_true rfl, Nat.le_of_ble_eq_true rfl⟩ ⟨Nat.le_refl _, Nat.le_refl _⟩ (Nat.le_of_ble_eq_true rfl) rfl dX11_purseOf_48 (fun H locs hH => ?_)
        refine x_topE (y := (nm (bk h k (σ 8) (σ 9) (σ 10)) b 6)) rfl ?_
        refine lv_iload_n hx hb dX11_purseOf_51 rfl (lv_at hl 3 rfl) ?_
        refine lv_icmp_ne (tgt := 62) hx hb dX11_purseOf_52 (by decide) (fun c52 => ?_) (fun c52 => ?_)
        · refine lv_iinc (v := ((nI b) + 1)) (lv' := [(5, .int ((nI b) + 1)), (6, .int (gnP (stP (bk h k (σ 8) (σ 9) (σ 10)) e b) (nm (bk h k (σ 8) (σ 9) (σ 10)) b 3) (nm (bk h k (σ 8) (σ 9) (σ 10)) b 4))), (0, .ref (ad 0)), (1, .ref (ad 7)), (2, .int p), (3, .int e), (4, .int (purR (bk h k (σ 8) (σ 9) (σ 10)) p e b))]) hx hb dX11_purseOf_62 hl (k := 6) rfl rfl (by decide) rfl (fun ls hl => ?_)
          refine lv_goto (tgt := 6) hx hb dX11_purseOf_65 (by decide) ?_
          exact ih_b (b + 1) (show (b + 1) ≤ k from (by omega)) (show k - (b + 1) < k - b from (by omega)) _ _ _ (hH.eq rfl) (lv_eq (lv_sub hl [2, 3, 4, 5, 6, 0] rfl) (lc_s (lc_s (lc_s (lc_s (lc_i (by first | exact st_b c33 | exact st_h c33 c52 | exact st_n c33 c52 : (purR (bk h k (σ 8) (σ 9) (σ 10)) p e b) = (purR (bk h k (σ 8) (σ 9) (σ 10)) p e (b + 1))) (lc_i (by exact nI_1 _ : ((nI b) + 1) = (nI (b + 1))) rfl)))))))
        · refine lv_iload hx hb dX11_purseOf_55 (lv_at hl 5 rfl) ?_
          refine lv_iload hx hb dX11_purseOf_57 (lv_at hl 0 rfl) ?_
          refine lv_isub hx hb dX11_purseOf_59 ?_
          refine lv_istore (lv' := [(4, .int ((purR (bk h k (σ 8) (σ 9) (σ 10)) p e b) - (gnP (stP (bk h k (σ 8) (σ 9) (σ 10)) e b) (nm (bk h k (σ 8) (σ 9) (σ 10)) b 3) (nm (bk h k (σ 8) (σ 9) (σ 10)) b 4)))), (6, .int (gnP (stP (bk h k (σ 8) (σ 9) (σ 10)) e b) (nm (bk h k (σ 8) (σ 9) (σ 10)) b 3) (nm (bk h k (σ 8) (σ 9) (σ 10)) b 4))), (0, .ref (ad 0)), (1, .ref (ad 7)), (2, .int p), (3, .int e), (5, .int (nI b))]) hx hb dX11_purseOf_60 hl (by decide) rfl (fun ls hl => ?_)
          refine lv_iinc (v := ((nI b) + 1)) (lv' := [(5, .int ((nI b) + 1)), (4, .int ((purR (bk h k (σ 8) (σ 9) (σ 10)) p e b) - (gnP (stP (bk h k (σ 8) (σ 9) (σ 10)) e b) (nm (bk h k (σ 8) (σ 9) (σ 10)) b 3) (nm (bk h k (σ 8) (σ 9) (σ 10)) b 4)))), (6, .int (gnP (stP (bk h k (σ 8) (σ 9) (σ 10)) e b) (nm (bk h k (σ 8) (σ 9) (σ 10)) b 3) (nm (bk h k (σ 8) (σ 9) (σ 10)) b 4))), (0, .ref (ad 0)), (1, .ref (ad 7)), (2, .int p), (3, .int e)]) hx hb dX11_purseOf_62 hl (k := 6) rfl rfl (by decide) rfl (fun ls hl => ?_)
          refine lv_goto (tgt := 6) hx hb dX11_purseOf_65 (by decide) ?_
          exact ih_b (b + 1) (show (b + 1) ≤ k from (by omega)) (show k - (b + 1) < k - b from (by omega)) _ _ _ (hH.eq rfl) (lv_eq (lv_sub hl [3, 4, 5, 6, 1, 0] rfl) (lc_s (lc_s (lc_s (lc_s (lc_i (by first | exact st_b c33 | exact st_h c33 c52 | exact st_n c33 c52 : ((purR (bk h k (σ 8) (σ 9) (σ 10)) p e b) - (gnP (stP (bk h k (σ 8) (σ 9) (σ 10)) e b) (nm (bk h k (σ 8) (σ 9) (σ 10)) b 3) (nm (bk h k (σ 8) (σ 9) (σ 10)) b 4))) = (purR (bk h k (σ 8) (σ 9) (σ 10)) p e (b + 1))) (lc_i (by exact nI_1 _ : ((nI b) + 1) = (nI (b + 1))) rfl)))))))
      · refine lv_iload hx hb dX11_purseOf_36 (lv_at hl 5 rfl) ?_
        refine lv_iload hx hb dX11_purseOf_38 (lv_at hl 0 rfl) ?_
        refine lv_iadd hx hb dX11_purseOf_40 ?_
        refine lv_istore (lv' := [(4, .int ((purR (bk h k (σ 8) (σ 9) (σ 10)) p e b) + (gnP (stP (bk h k (σ 8) (σ 9) (σ 10)) e b) (nm (bk h k (σ 8) (σ 9) (σ 10)) b 3) (nm (bk h k (σ 8) (σ 9) (σ 10)) b 4)))), (6, .int (gnP (stP (bk h k (σ 8) (σ 9) (σ 10)) e b) (nm (bk h k (σ 8) (σ 9) (σ 10)) b 3) (nm (bk h k (σ 8) (σ 9) (σ 10)) b 4))), (0, .ref (ad 0)), (1, .ref (ad 7)), (2, .int p), (3, .int e), (5, .int (nI b))]) hx hb dX11_purseOf_41 hl (by decide) rfl (fun ls hl => ?_)
        refine lv_aload_n hx hb dX11_purseOf_43 rfl (lv_at hl 3 rfl) ?_
        refine lv_iload hx hb dX11_purseOf_44 (lv_at hl 6 rfl) ?_
        refine lv_bipush (v := 6) hx hb dX11_purseOf_46 (by decide) ?_
        refine x_callV (ws' := WC G ad σ) (As := [.int (nI b), .int 6]) (rest := []) (st' := [.int ((σ 9) (7 * b + 6))]) hC hK hZ hA hl.1 hH (k_X2_numberOf l G (pk ad [7, 8, 9, 10]) (pk σ [7, 8, 9, 10]) (nI b) 6 b 6 rfl rfl (by omega) (by decide)) lk_X11_91 [7, 8, 9, 10] rfl rfl rfl 7 1 rfl rfl rfl ⟨Nat.le_of_ble_eq_true rfl, Nat.le_of_ble_eq_true rfl⟩ ⟨Nat.le_refl _, Nat.le_refl _⟩ (Nat.le_of_ble_eq_true rfl) rfl dX11_purseOf_48 (fun H locs hH => ?_)
        refine x_topE (y := (nm (bk h k (σ 8) (σ 9) (σ 10)) b 6)) rfl ?_
        refine lv_iload_n hx hb dX11_purseOf_51 rfl (lv_at hl 4 rfl) ?_
        refine lv_icmp_ne (tgt := 62) hx hb dX11_purseOf_52 (by decide) (fun c52 => ?_) (fun c52 => ?_)
        rotate_left
        · exact absurd (c33.trans c52.symm) (hbh b (show b < bK _ from lt_b))
        refine lv_iinc (v := ((nI b) + 1)) (lv' := [(5, .int ((nI b) + 1)), (4, .int ((purR (bk h k (σ 8) (σ 9) (σ 10)) p e b) + (gnP (stP (bk h k (σ 8) (σ 9) (σ 10)) e b) (nm (bk h k (σ 8) (σ 9) (σ 10)) b 3) (nm (bk h k (σ 8) (σ 9) (σ 10)) b 4)))), (6, .int (gnP (stP (bk h k (σ 8) (σ 9) (σ 10)) e b) (nm (bk h k (σ 8) (σ 9) (σ 10)) b 3) (nm (bk h k (σ 8) (σ 9) (σ 10)) b 4))), (0, .ref (ad 0)), (1, .ref (ad 7)), (2, .int p), (3, .int e)]) hx hb dX11_purseOf_62 hl (k := 6) rfl rfl (by decide) rfl (fun ls hl => ?_)
        refine lv_goto (tgt := 6) hx hb dX11_purseOf_65 (by decide) ?_
        exact ih_b (b + 1) (show (b + 1) ≤ k from (by omega)) (show k - (b + 1) < k - b from (by omega)) _ _ _ (hH.eq rfl) (lv_eq (lv_sub hl [3, 4, 5, 6, 1, 0] rfl) (lc_s (lc_s (lc_s (lc_s (lc_i (by first | exact st_b c33 | exact st_h c33 c52 | exact st_n c33 c52 : ((purR (bk h k (σ 8) (σ 9) (σ 10)) p e b) + (gnP (stP (bk h k (σ 8) (σ 9) (σ 10)) e b) (nm (bk h k (σ 8) (σ 9) (σ 10)) b 3) (nm (bk h k (σ 8) (σ 9) (σ 10)) b 4))) = (purR (bk h k (σ 8) (σ 9) (σ 10)) p e (b + 1))) (lc_i (by exact nI_1 _ : ((nI b) + 1) = (nI (b + 1))) rfl)))))))
  · exact hH.eq rfl
  · exact lv_eq (lv_sub hl [2, 3, 4, 5, 1, 0] rfl) (lc_s (lc_s (lc_s (lc_s (lc_i (by rfl : 0 = (purR (bk h k (σ 8) (σ 9) (σ 10)) p e 0)) (lc_i (by rfl : 0 = (nI 0)) rfl))))))
set_option maxHeartbeats 4000000 in
set_option maxRecDepth 100000 in
theorem k_X11_meanOf_t (l : Launch) (G : GP) (ad : Nat → Nat) (σ : Nat → Nat → Int32) (p : Int32) (h : Nat) (k : Nat) (hb3 : (σ 7 3) = nI h) (hb4 : (σ 7 4) = nI k) (hh4 : h ≤ 4) (hk6 : k ≤ 6) (hwo : WO (bk h k (σ 8) (σ 9) (σ 10)) (σ 23) (σ 24)) (hbh : BH (bk h k (σ 8) (σ 9) (σ 10))) : CT l G yX11_meanOf cX11_meanOf 7 (some .int) 4 [.ref (ad 0), .ref (ad 7), .int p] (WC G ad σ) (some (.int (meanA (bk h k (σ 8) (σ 9) (σ 10)) p))) (WC G ad σ) := by
  refine x_meth "BetsOnBets" rfl (by decide +kernel) (by rfl) (Nat.le_of_ble_eq_true rfl) ?_
  intro pP eE sS mM args below meth cC A ls hC hr hkL hK hZ hA hH hl
  have hx := hC.1
  have hb := hC.2.1
  have hl : lv_has ls 7 [(0, .ref (ad 0)), (1, .ref (ad 7)), (2, .int p)] := hl
  have pwh := pw4 hh4
  have pwk := pw6 hk6
  have ph1 := Nat.one_le_two_pow (n := h)
  refine lv_aload_n hx hb dX11_meanOf_0 rfl (lv_at hl 1 rfl) ?_
  refine x_callV (ws' := WC G ad σ) (As := []) (rest := []) (st' := [.int (nI (2 ^ h))]) hC hK hZ hA hl.1 hH (k_X2_ends l G (pk ad [7, 8, 9, 10]) (pk σ [7, 8, 9, 10]) h k hb3 hb4 hh4 hk6) lk_X11_139 [7, 8, 9, 10] rfl rfl rfl 7 1 rfl rfl rfl ⟨Nat.le_of_ble_eq_true rfl, Nat.le_of_ble_eq_true rfl⟩ ⟨Nat.le_refl _, Nat.le_refl _⟩ (Nat.le_of_ble_eq_true rfl) rfl dX11_meanOf_1 (fun H locs hH => ?_)
  refine lv_istore_n (lv' := [(3, .int (nI (2 ^ h))), (0, .ref (ad 0)), (1, .ref (ad 7)), (2, .int p)]) hx hb dX11_meanOf_4 rfl hl (by decide) rfl (fun ls hl => ?_)
  refine lv_lconst (v := 0) hx hb dX11_meanOf_5 (by decide) ?_
  refine lv_lstore (lv' := [(4, .long (0 : Int64)), (3, .int (nI (2 ^ h))), (0, .ref (ad 0)), (1, .ref (ad 7)), (2, .int p)]) hx hb dX11_meanOf_6 hl (by decide) rfl (fun ls hl => ?_)
  refine lv_iconst (v := 0) hx hb dX11_meanOf_8 (by decide) ?_
  refine lv_istore (lv' := [(6, .int 0), (4, .long (0 : Int64)), (3, .int (nI (2 ^ h))), (0, .ref (ad 0)), (1, .ref (ad 7)), (2, .int p)]) hx hb dX11_meanOf_9 hl (by decide) rfl (fun ls hl => ?_)
  refine x_loop (G := G) (A := A) (H0 := sS.heap) (nL := 7) (α := Nat) (fun q_ => (2 ^ h) - q_) (fun q_ => q_ ≤ (2 ^ h)) (fun q_ => WC G ad σ) (fun q_ => [(0, .ref (ad 0)), (1, .ref (ad 7)), (2, .int p), (3, .int (nI (2 ^ h))), (4, .long (sumM (bk h k (σ 8) (σ 9) (σ 10)) p q_)), (6, .int (nI q_))]) ?_ 0 (show 0 ≤ (2 ^ h) from (Nat.zero_le _)) ?_ ?_
  · rintro e hi_e ih_e H locs ls hH hl
    replace hi_e : e ≤ (2 ^ h) := hi_e
    replace hH : Hx G A (WC G ad σ) sS.heap H locs := hH
    replace hl : lv_has ls 7 [(0, .ref (ad 0)), (1, .ref (ad 7)), (2, .int p), (3, .int (nI (2 ^ h))), (4, .long (sumM (bk h k (σ 8) (σ 9) (σ 10)) p e)), (6, .int (nI e))] := hl
    refine lv_iload hx hb dX11_meanOf_11 (lv_at hl 5 rfl) ?_
    refine lv_iload_n hx hb dX11_meanOf_13 rfl (lv_at hl 3 rfl) ?_
    refine lv_icmp_ge (tgt := 44) hx hb dX11_meanOf_14 (by decide) (fun c14 => ?_) (fun c14 => ?_)
    · have ge_e := lp_out (n := 2 ^ h) rfl (by omega) (by omega) c14
      have eq_e : e = 2 ^ h := by omega
      refine lv_aload_n hx hb dX11_meanOf_44 rfl (lv_at hl 1 rfl) ?_
      refine lv_lload hx hb dX11_meanOf_45 (lv_at hl 4 rfl) ?_
      refine x_callS (ws' := WC G ad σ) (As := [.ref (ad 7), .long (sumM (bk h k (σ 8) (σ 9) (σ 10)) p e)]) (rest := []) (st' := [.int ((((sumM (bk h k (σ 8) (σ 9) (σ 10)) p e) * 100) / whl h).toInt32)]) hC hK hZ hA hl.1 hH (k_X11_inHundredths l G (pk ad [7, 8, 9, 10]) (pk σ [7, 8, 9, 10]) (sumM (bk h k (σ 8) (σ 9) (σ 10)) p e) h k hb3 hb4 hh4 hk6) lk_X11_146 [7, 8, 9, 10] rfl rfl rfl rfl ⟨Nat.le_of_ble_eq_true rfl, Nat.le_of_ble_eq_true rfl⟩ ⟨Nat.le_refl _, Nat.le_refl _⟩ (Nat.le_of_ble_eq_true rfl) rfl dX11_meanOf_47 (fun H locs hH => ?_)
      exact x_iret hC hr hkL hH (by rw [eq_e, meanA, Int64.mul_comm]; rfl) rfl dX11_meanOf_50
    · have lt_e := lp_in (n := 2 ^ h) rfl (by omega) (by omega) c14
      refine lv_lload hx hb dX11_meanOf_17 (lv_at hl 4 rfl) ?_
      refine lv_aload_n hx hb dX11_meanOf_19 rfl (lv_at hl 1 rfl) ?_
      refine lv_iload hx hb dX11_meanOf_20 (lv_at hl 5 rfl) ?_
      refine x_callV (ws' := WC G ad σ) (As := [.int (nI e)]) (rest := [.long (sumM (bk h k (σ 8) (σ 9) (σ 10)) p e)]) (st' := [.long (wgtA (bk h k (σ 8) (σ 9) (σ 10)) (nI e)), .long (sumM (bk h k (σ 8) (σ 9) (σ 10)) p e)]) hC hK hZ hA hl.1 hH (k_X2_weightOf l G (pk ad [7, 8, 9, 10]) (pk σ [7, 8, 9, 10]) (nI e) h k hb3 hb4 hh4 hk6) lk_X11_142 [7, 8, 9, 10] rfl rfl rfl 7 1 rfl rfl rfl ⟨Nat.le_of_ble_eq_true rfl, Nat.le_of_ble_eq_true rfl⟩ ⟨Nat.le_refl _, Nat.le_refl _⟩ (Nat.le_of_ble_eq_true rfl) rfl dX11_meanOf_22 (fun H locs hH => ?_)
      refine lv_aload_n hx hb dX11_meanOf_25 rfl (lv_at hl 0 rfl) ?_
      refine lv_aload_n hx hb dX11_meanOf_26 rfl (lv_at hl 1 rfl) ?_
      refine lv_iload_n hx hb dX11_meanOf_27 rfl (lv_at hl 2 rfl) ?_
      refine lv_iload hx hb dX11_meanOf_28 (lv_at hl 5 rfl) ?_
      refine x_callVA (ws' := WC G ad σ) (As := [.ref (ad 7), .int p, .int (nI e)]) (rest := [.long (wgtA (bk h k (σ 8) (σ 9) (σ 10)) (nI e)), .long (sumM (bk h k (σ 8) (σ 9) (σ 10)) p e)]) (st' := [.int (purA (bk h k (σ 8) (σ 9) (σ 10)) p (nI e)), .long (wgtA (bk h k (σ 8) (σ 9) (σ 10)) (nI e)), .long (sumM (bk h k (σ 8) (σ 9) (σ 10)) p e)]) hC hK hZ hA hl.1 hH (k_X11_purseOf_t l G ad σ p (nI e) h k e hb3 hb4 hh4 hk6 hwo hbh rfl (by omega)) lk_X11_124 rfl 0 10 rfl rfl rfl ⟨Nat.le_of_ble_eq_true rfl, Nat.le_of_ble_eq_true rfl⟩ ⟨Nat.le_refl _, Nat.le_refl _⟩ (Nat.le_of_ble_eq_true rfl) rfl dX11_meanOf_30 (fun H locs hH => ?_)
      refine lv_i2l (v := ((purA (bk h k (σ 8) (σ 9) (σ 10)) p (nI e)).toInt64)) hx hb dX11_meanOf_33 rfl ?_
      refine lv_lmul hx hb dX11_meanOf_34 ?_
      refine lv_ladd hx hb dX11_meanOf_35 ?_
      refine lv_lstore (lv' := [(4, .long ((sumM (bk h k (σ 8) (σ 9) (σ 10)) p e) + ((wgtA (bk h k (σ 8) (σ 9) (σ 10)) (nI e)) * ((purA (bk h k (σ 8) (σ 9) (σ 10)) p (nI e)).toInt64)))), (0, .ref (ad 0)), (1, .ref (ad 7)), (2, .int p), (3, .int (nI (2 ^ h))), (6, .int (nI e))]) hx hb dX11_meanOf_36 hl (by decide) rfl (fun ls hl => ?_)
      refine lv_iinc (v := ((nI e) + 1)) (lv' := [(6, .int ((nI e) + 1)), (4, .long ((sumM (bk h k (σ 8) (σ 9) (σ 10)) p e) + ((wgtA (bk h k (σ 8) (σ 9) (σ 10)) (nI e)) * ((purA (bk h k (σ 8) (σ 9) (σ 10)) p (nI e)).toInt64)))), (0, .ref (ad 0)), (1, .ref (ad 7)), (2, .int p), (3, .int (nI (2 ^ h)))]) hx hb dX11_meanOf_38 hl (k := 5) rfl rfl (by decide) rfl (fun ls hl => ?_)
      refine lv_goto (tgt := 11) hx hb dX11_meanOf_41 (by decide) ?_
      exact ih_e (e + 1) (show (e + 1) ≤ (2 ^ h) from (by omega)) (show (2 ^ h) - (e + 1) < (2 ^ h) - e from (by omega)) _ _ _ (hH.eq rfl) (lv_eq (lv_sub hl [2, 3, 4, 5, 1, 0] rfl) (lc_s (lc_s (lc_s (lc_s (lc_l (by rfl : ((sumM (bk h k (σ 8) (σ 9) (σ 10)) p e) + ((wgtA (bk h k (σ 8) (σ 9) (σ 10)) (nI e)) * ((purA (bk h k (σ 8) (σ 9) (σ 10)) p (nI e)).toInt64))) = (sumM (bk h k (σ 8) (σ 9) (σ 10)) p (e + 1))) (lc_i (by exact nI_1 _ : ((nI e) + 1) = (nI (e + 1))) rfl)))))))
  · exact hH.eq rfl
  · exact lv_eq (lv_sub hl [3, 4, 5, 2, 1, 0] rfl) (lc_s (lc_s (lc_s (lc_s (lc_l (by rfl : (0 : Int64) = (sumM (bk h k (σ 8) (σ 9) (σ 10)) p 0)) (lc_i (by rfl : 0 = (nI 0)) rfl))))))
set_option maxHeartbeats 4000000 in
set_option maxRecDepth 100000 in
theorem k_X11_extremeEnd_tm (l : Launch) (G : GP) (ad : Nat → Nat) (σ : Nat → Nat → Int32) (p : Int32) (sg : Int32) (h : Nat) (k : Nat) (hb3 : (σ 7 3) = nI h) (hb4 : (σ 7 4) = nI k) (hh4 : h ≤ 4) (hk6 : k ≤ 6) (hwo : WO (bk h k (σ 8) (σ 9) (σ 10)) (σ 23) (σ 24)) (hbh : BH (bk h k (σ 8) (σ 9) (σ 10))) (hpb : PB (bk h k (σ 8) (σ 9) (σ 10))) (hsg : sg = (-1)) : CT l G yX11_extremeEnd cX11_extremeEnd 9 (some .int) 4 [.ref (ad 0), .ref (ad 7), .int p, .int sg] (WC G ad σ) (some (.int (nI (wEA (bk h k (σ 8) (σ 9) (σ 10)) p)))) (WC G ad σ) := by
  refine x_meth "BetsOnBets" rfl (by decide +kernel) (by rfl) (Nat.le_of_ble_eq_true rfl) ?_
  intro pP eE sS mM args below meth cC A ls hC hr hkL hK hZ hA hH hl
  have hx := hC.1
  have hb := hC.2.1
  have hl : lv_has ls 9 [(0, .ref (ad 0)), (1, .ref (ad 7)), (2, .int p), (3, .int sg)] := hl
  have pwh := pw4 hh4
  have pwk := pw6 hk6
  have ph1 := Nat.one_le_two_pow (n := h)
  subst hsg
  skip
  refine lv_aload_n hx hb dX11_extremeEnd_0 rfl (lv_at hl 1 rfl) ?_
  refine x_callV (ws' := WC G ad σ) (As := []) (rest := []) (st' := [.int (nI (2 ^ h))]) hC hK hZ hA hl.1 hH (k_X2_ends l G (pk ad [7, 8, 9, 10]) (pk σ [7, 8, 9, 10]) h k hb3 hb4 hh4 hk6) lk_X11_139 [7, 8, 9, 10] rfl rfl rfl 7 1 rfl rfl rfl ⟨Nat.le_of_ble_eq_true rfl, Nat.le_of_ble_eq_true rfl⟩ ⟨Nat.le_refl _, Nat.le_refl _⟩ (Nat.le_of_ble_eq_true rfl) rfl dX11_extremeEnd_1 (fun H locs hH => ?_)
  refine lv_istore (lv' := [(4, .int (nI (2 ^ h))), (0, .ref (ad 0)), (1, .ref (ad 7)), (2, .int p), (3, .int (-1))]) hx hb dX11_extremeEnd_4 hl (by decide) rfl (fun ls hl => ?_)
  refine lv_iconst (v := 0) hx hb dX11_extremeEnd_6 (by decide) ?_
  refine lv_istore (lv' := [(5, .int 0), (4, .int (nI (2 ^ h))), (0, .ref (ad 0)), (1, .ref (ad 7)), (2, .int p), (3, .int (-1))]) hx hb dX11_extremeEnd_7 hl (by decide) rfl (fun ls hl => ?_)
  refine lv_iload_n hx hb dX11_extremeEnd_9 rfl (lv_at hl 5 rfl) ?_
  refine lv_aload_n hx hb dX11_extremeEnd_10 rfl (lv_at hl 2 rfl) ?_
  refine lv_aload_n hx hb dX11_extremeEnd_11 rfl (lv_at hl 3 rfl) ?_
  refine lv_iload_n hx hb dX11_extremeEnd_12 rfl (lv_at hl 4 rfl) ?_
  refine lv_iconst (v := 0) hx hb dX11_extremeEnd_13 (by decide) ?_
  refine x_callVA (ws' := WC G ad σ) (As := [.ref (ad 7), .int p, .int 0]) (rest := [.int (-1)]) (st' := [.int (purA (bk h k (σ 8) (σ 9) (σ 10)) p 0), .int (-1)]) hC hK hZ hA hl.1 hH (k_X11_purseOf_t l G ad σ p 0 h k 0 hb3 hb4 hh4 hk6 hwo hbh rfl (by omega)) lk_X11_124 rfl 0 10 rfl rfl rfl ⟨Nat.le_of_ble_eq_true rfl, Nat.le_of_ble_eq_true rfl⟩ ⟨Nat.le_refl _, Nat.le_refl _⟩ (Nat.le_of_ble_eq_true rfl) rfl dX11_extremeEnd_14 (fun H locs hH => ?_)
  refine lv_imul hx hb dX11_extremeEnd_17 ?_
  refine lv_istore (lv' := [(6, .int ((-1) * (purA (bk h k (σ 8) (σ 9) (σ 10)) p 0))), (5, .int 0), (4, .int (nI (2 ^ h))), (0, .ref (ad 0)), (1, .ref (ad 7)), (2, .int p), (3, .int (-1))]) hx hb dX11_extremeEnd_18 hl (by decide) rfl (fun ls hl => ?_)
  refine lv_iconst (v := 1) hx hb dX11_extremeEnd_20 (by decide) ?_
  refine lv_istore (lv' := [(7, .int 1), (6, .int ((-1) * (purA (bk h k (σ 8) (σ 9) (σ 10)) p 0))), (5, .int 0), (4, .int (nI (2 ^ h))), (0, .ref (ad 0)), (1, .ref (ad 7)), (2, .int p), (3, .int (-1))]) hx hb dX11_extremeEnd_21 hl (by decide) rfl (fun ls hl => ?_)
  refine x_loop (G := G) (A := A) (H0 := sS.heap) (nL := 9) (α := Nat) (fun q_ => (2 ^ h) - q_) (fun q_ => 1 ≤ q_ ∧ q_ ≤ 2 ^ h) (fun q_ => WC G ad σ) (fun q_ => [(0, .ref (ad 0)), (1, .ref (ad 7)), (2, .int p), (3, .int (-1)), (4, .int (nI (2 ^ h))), (5, .int (nI (wEnd (bk h k (σ 8) (σ 9) (σ 10)) p q_))), (6, .int ((-1) * (purA (bk h k (σ 8) (σ 9) (σ 10)) p (nI (wEnd (bk h k (σ 8) (σ 9) (σ 10)) p q_))))), (7, .int (nI q_))]) ?_ 1 (show 1 ≤ 1 ∧ 1 ≤ 2 ^ h from ⟨by omega, ph1⟩) ?_ ?_
  · rintro e hi_e ih_e H locs ls hH hl
    replace hi_e : 1 ≤ e ∧ e ≤ 2 ^ h := hi_e
    replace hH : Hx G A (WC G ad σ) sS.heap H locs := hH
    replace hl : lv_has ls 9 [(0, .ref (ad 0)), (1, .ref (ad 7)), (2, .int p), (3, .int (-1)), (4, .int (nI (2 ^ h))), (5, .int (nI (wEnd (bk h k (σ 8) (σ 9) (σ 10)) p e))), (6, .int ((-1) * (purA (bk h k (σ 8) (σ 9) (σ 10)) p (nI (wEnd (bk h k (σ 8) (σ 9) (σ 10)) p e))))), (7, .int (nI e))] := hl
    have hi_e1 := hi_e.2
    refine lv_iload hx hb dX11_extremeEnd_23 (lv_at hl 7 rfl) ?_
    refine lv_iload hx hb dX11_extremeEnd_25 (lv_at hl 4 rfl) ?_
    refine lv_icmp_ge (tgt := 63) hx hb dX11_extremeEnd_27 (by decide) (fun c27 => ?_) (fun c27 => ?_)
    · have ge_e := lp_out (n := 2 ^ h) rfl (by omega) (by omega) c27
      have eq_e : e = 2 ^ h := by omega
      refine lv_iload hx hb dX11_extremeEnd_63 (lv_at hl 5 rfl) ?_
      exact x_iret hC hr hkL hH (by rw [eq_e]; rfl) rfl dX11_extremeEnd_65
    · have lt_e := lp_in (n := 2 ^ h) rfl (by omega) (by omega) c27
      refine lv_iload_n hx hb dX11_extremeEnd_30 rfl (lv_at hl 3 rfl) ?_
      refine lv_aload_n hx hb dX11_extremeEnd_31 rfl (lv_at hl 0 rfl) ?_
      refine lv_aload_n hx hb dX11_extremeEnd_32 rfl (lv_at hl 1 rfl) ?_
      refine lv_iload_n hx hb dX11_extremeEnd_33 rfl (lv_at hl 2 rfl) ?_
      refine lv_iload hx hb dX11_extremeEnd_34 (lv_at hl 7 rfl) ?_
      refine x_callVA (ws' := WC G ad σ) (As := [.ref (ad 7), .int p, .int (nI e)]) (rest := [.int (-1)]) (st' := [.int (purA (bk h k (σ 8) (σ 9) (σ 10)) p (nI e)), .int (-1)]) hC hK hZ hA hl.1 hH (k_X11_purseOf_t l G ad σ p (nI e) h k e hb3 hb4 hh4 hk6 hwo hbh rfl (by omega)) lk_X11_124 rfl 0 10 rfl rfl rfl ⟨Nat.le_of_ble_eq_true rfl, Nat.le_of_ble_eq_true rfl⟩ ⟨Nat.le_refl _, Nat.le_refl _⟩ (Nat.le_of_ble_eq_true rfl) rfl dX11_extremeEnd_36 (fun H locs hH => ?_)
      refine lv_imul hx hb dX11_extremeEnd_39 ?_
      refine lv_istore (lv' := [(8, .int ((-1) * (purA (bk h k (σ 8) (σ 9) (σ 10)) p (nI e)))), (0, .ref (ad 0)), (1, .ref (ad 7)), (2, .int p), (3, .int (-1)), (4, .int (nI (2 ^ h))), (5, .int (nI (wEnd (bk h k (σ 8) (σ 9) (σ 10)) p e))), (6, .int ((-1) * (purA (bk h k (σ 8) (σ 9) (σ 10)) p (nI (wEnd (bk h k (σ 8) (σ 9) (σ 10)) p e))))), (7, .int (nI e))]) hx hb dX11_extremeEnd_40 hl (by decide) rfl (fun ls hl => ?_)
      refine lv_iload hx hb dX11_extremeEnd_42 (lv_at hl 0 rfl) ?_
      refine lv_iload hx hb dX11_extremeEnd_44 (lv_at hl 7 rfl) ?_
      refine lv_icmp_le (tgt := 57) hx hb dX11_extremeEnd_46 (by decide) (fun c46 => ?_) (fun c46 => ?_)
      · refine lv_iinc (v := ((nI e) + 1)) (lv' := [(7, .int ((nI e) + 1)), (8, .int ((-1) * (purA (bk h k (σ 8) (σ 9) (σ 10)) p (nI e)))), (0, .ref (ad 0)), (1, .ref (ad 7)), (2, .int p), (3, .int (-1)), (4, .int (nI (2 ^ h))), (5, .int (nI (wEnd (bk h k (σ 8) (σ 9) (σ 10)) p e))), (6, .int ((-1) * (purA (bk h k (σ 8) (σ 9) (σ 10)) p (nI (wEnd (bk h k (σ 8) (σ 9) (σ 10)) p e)))))]) hx hb dX11_extremeEnd_57 hl (k := 8) rfl rfl (by decide) rfl (fun ls hl => ?_)
        refine lv_goto (tgt := 23) hx hb dX11_extremeEnd_60 (by decide) ?_
        exact ih_e (e + 1) (show 1 ≤ (e + 1) ∧ (e + 1) ≤ 2 ^ h from ⟨by omega, by omega⟩) (show (2 ^ h) - (e + 1) < (2 ^ h) - e from (by omega)) _ _ _ (hH.eq rfl) (lv_eq (lv_sub hl [2, 3, 4, 5, 6, 7, 8, 0] rfl) (lc_s (lc_s (lc_s (lc_s (lc_s (lc_i (by first | (rw [wEnd_f (Int32.not_lt.mpr ((ng_le (hpb p e (show e < 2 ^ bH _ from lt_e)) (hpb p _ (show wEnd _ _ _ < 2 ^ bH _ from Nat.lt_trans (wEnd_lt _ _ e (by omega)) lt_e))).mp c46))]; done) | (rw [wEnd_t (Int32.not_le.mp (fun z => c46 ((ng_le (hpb p e (show e < 2 ^ bH _ from lt_e)) (hpb p _ (show wEnd _ _ _ < 2 ^ bH _ from Nat.lt_trans (wEnd_lt _ _ e (by omega)) lt_e))).mpr z)))]; done) : (nI (wEnd (bk h k (σ 8) (σ 9) (σ 10)) p e)) = (nI (wEnd (bk h k (σ 8) (σ 9) (σ 10)) p (e + 1)))) (lc_i (by first | (rw [wEnd_f (Int32.not_lt.mpr ((ng_le (hpb p e (show e < 2 ^ bH _ from lt_e)) (hpb p _ (show wEnd _ _ _ < 2 ^ bH _ from Nat.lt_trans (wEnd_lt _ _ e (by omega)) lt_e))).mp c46))]; done) | (rw [wEnd_t (Int32.not_le.mp (fun z => c46 ((ng_le (hpb p e (show e < 2 ^ bH _ from lt_e)) (hpb p _ (show wEnd _ _ _ < 2 ^ bH _ from Nat.lt_trans (wEnd_lt _ _ e (by omega)) lt_e))).mpr z)))]; done) : ((-1) * (purA (bk h k (σ 8) (σ 9) (σ 10)) p (nI (wEnd (bk h k (σ 8) (σ 9) (σ 10)) p e)))) = ((-1) * (purA (bk h k (σ 8) (σ 9) (σ 10)) p (nI (wEnd (bk h k (σ 8) (σ 9) (σ 10)) p (e + 1)))))) (lc_i (by exact nI_1 _ : ((nI e) + 1) = (nI (e + 1))) rfl)))))))))
      · refine lv_iload hx hb dX11_extremeEnd_49 (lv_at hl 0 rfl) ?_
        refine lv_istore (lv' := [(6, .int ((-1) * (purA (bk h k (σ 8) (σ 9) (σ 10)) p (nI e)))), (8, .int ((-1) * (purA (bk h k (σ 8) (σ 9) (σ 10)) p (nI e)))), (0, .ref (ad 0)), (1, .ref (ad 7)), (2, .int p), (3, .int (-1)), (4, .int (nI (2 ^ h))), (5, .int (nI (wEnd (bk h k (σ 8) (σ 9) (σ 10)) p e))), (7, .int (nI e))]) hx hb dX11_extremeEnd_51 hl (by decide) rfl (fun ls hl => ?_)
        refine lv_iload hx hb dX11_extremeEnd_53 (lv_at hl 8 rfl) ?_
        refine lv_istore (lv' := [(5, .int (nI e)), (6, .int ((-1) * (purA (bk h k (σ 8) (σ 9) (σ 10)) p (nI e)))), (8, .int ((-1) * (purA (bk h k (σ 8) (σ 9) (σ 10)) p (nI e)))), (0, .ref (ad 0)), (1, .ref (ad 7)), (2, .int p), (3, .int (-1)), (4, .int (nI (2 ^ h))), (7, .int (nI e))]) hx hb dX11_extremeEnd_55 hl (by decide) rfl (fun ls hl => ?_)
        refine lv_iinc (v := ((nI e) + 1)) (lv' := [(7, .int ((nI e) + 1)), (5, .int (nI e)), (6, .int ((-1) * (purA (bk h k (σ 8) (σ 9) (σ 10)) p (nI e)))), (8, .int ((-1) * (purA (bk h k (σ 8) (σ 9) (σ 10)) p (nI e)))), (0, .ref (ad 0)), (1, .ref (ad 7)), (2, .int p), (3, .int (-1)), (4, .int (nI (2 ^ h)))]) hx hb dX11_extremeEnd_57 hl (k := 8) rfl rfl (by decide) rfl (fun ls hl => ?_)
        refine lv_goto (tgt := 23) hx hb dX11_extremeEnd_60 (by decide) ?_
        exact ih_e (e + 1) (show 1 ≤ (e + 1) ∧ (e + 1) ≤ 2 ^ h from ⟨by omega, by omega⟩) (show (2 ^ h) - (e + 1) < (2 ^ h) - e from (by omega)) _ _ _ (hH.eq rfl) (lv_eq (lv_sub hl [4, 5, 6, 7, 8, 1, 2, 0] rfl) (lc_s (lc_s (lc_s (lc_s (lc_s (lc_i (by first | (rw [wEnd_f (Int32.not_lt.mpr ((ng_le (hpb p e (show e < 2 ^ bH _ from lt_e)) (hpb p _ (show wEnd _ _ _ < 2 ^ bH _ from Nat.lt_trans (wEnd_lt _ _ e (by omega)) lt_e))).mp c46))]; done) | (rw [wEnd_t (Int32.not_le.mp (fun z => c46 ((ng_le (hpb p e (show e < 2 ^ bH _ from lt_e)) (hpb p _ (show wEnd _ _ _ < 2 ^ bH _ from Nat.lt_trans (wEnd_lt _ _ e (by omega)) lt_e))).mpr z)))]; done) : (nI e) = (nI (wEnd (bk h k (σ 8) (σ 9) (σ 10)) p (e + 1)))) (lc_i (by first | (rw [wEnd_f (Int32.not_lt.mpr ((ng_le (hpb p e (show e < 2 ^ bH _ from lt_e)) (hpb p _ (show wEnd _ _ _ < 2 ^ bH _ from Nat.lt_trans (wEnd_lt _ _ e (by omega)) lt_e))).mp c46))]; done) | (rw [wEnd_t (Int32.not_le.mp (fun z => c46 ((ng_le (hpb p e (show e < 2 ^ bH _ from lt_e)) (hpb p _ (show wEnd _ _ _ < 2 ^ bH _ from Nat.lt_trans (wEnd_lt _ _ e (by omega)) lt_e))).mpr z)))]; done) : ((-1) * (purA (bk h k (σ 8) (σ 9) (σ 10)) p (nI e))) = ((-1) * (purA (bk h k (σ 8) (σ 9) (σ 10)) p (nI (wEnd (bk h k (σ 8) (σ 9) (σ 10)) p (e + 1)))))) (lc_i (by exact nI_1 _ : ((nI e) + 1) = (nI (e + 1))) rfl)))))))))
  · exact hH.eq rfl
  · exact lv_eq (lv_sub hl [4, 5, 6, 7, 3, 2, 1, 0] rfl) (lc_s (lc_s (lc_s (lc_s (lc_s (lc_i (by rw [wEnd_1]; rfl : 0 = (nI (wEnd (bk h k (σ 8) (σ 9) (σ 10)) p 1))) (lc_i (by rw [wEnd_1]; rfl : ((-1) * (purA (bk h k (σ 8) (σ 9) (σ 10)) p 0)) = ((-1) * (purA (bk h k (σ 8) (σ 9) (σ 10)) p (nI (wEnd (bk h k (σ 8) (σ 9) (σ 10)) p 1))))) (lc_i (by rfl : 1 = (nI 1)) rfl))))))))
set_option maxHeartbeats 4000000 in
set_option maxRecDepth 100000 in
theorem k_X11_extremeEnd_tp (l : Launch) (G : GP) (ad : Nat → Nat) (σ : Nat → Nat → Int32) (p : Int32) (sg : Int32) (h : Nat) (k : Nat) (hb3 : (σ 7 3) = nI h) (hb4 : (σ 7 4) = nI k) (hh4 : h ≤ 4) (hk6 : k ≤ 6) (hwo : WO (bk h k (σ 8) (σ 9) (σ 10)) (σ 23) (σ 24)) (hbh : BH (bk h k (σ 8) (σ 9) (σ 10))) (hpb : PB (bk h k (σ 8) (σ 9) (σ 10))) (hsg : sg = 1) : CT l G yX11_extremeEnd cX11_extremeEnd 9 (some .int) 4 [.ref (ad 0), .ref (ad 7), .int p, .int sg] (WC G ad σ) (some (.int (nI (bEA (bk h k (σ 8) (σ 9) (σ 10)) p)))) (WC G ad σ) := by
  refine x_meth "BetsOnBets" rfl (by decide +kernel) (by rfl) (Nat.le_of_ble_eq_true rfl) ?_
  intro pP eE sS mM args below meth cC A ls hC hr hkL hK hZ hA hH hl
  have hx := hC.1
  have hb := hC.2.1
  have hl : lv_has ls 9 [(0, .ref (ad 0)), (1, .ref (ad 7)), (2, .int p), (3, .int sg)] := hl
  have pwh := pw4 hh4
  have pwk := pw6 hk6
  have ph1 := Nat.one_le_two_pow (n := h)
  subst hsg
  skip
  refine lv_aload_n hx hb dX11_extremeEnd_0 rfl (lv_at hl 1 rfl) ?_
  refine x_callV (ws' := WC G ad σ) (As := []) (rest := []) (st' := [.int (nI (2 ^ h))]) hC hK hZ hA hl.1 hH (k_X2_ends l G (pk ad [7, 8, 9, 10]) (pk σ [7, 8, 9, 10]) h k hb3 hb4 hh4 hk6) lk_X11_139 [7, 8, 9, 10] rfl rfl rfl 7 1 rfl rfl rfl ⟨Nat.le_of_ble_eq_true rfl, Nat.le_of_ble_eq_true rfl⟩ ⟨Nat.le_refl _, Nat.le_refl _⟩ (Nat.le_of_ble_eq_true rfl) rfl dX11_extremeEnd_1 (fun H locs hH => ?_)
  refine lv_istore (lv' := [(4, .int (nI (2 ^ h))), (0, .ref (ad 0)), (1, .ref (ad 7)), (2, .int p), (3, .int 1)]) hx hb dX11_extremeEnd_4 hl (by decide) rfl (fun ls hl => ?_)
  refine lv_iconst (v := 0) hx hb dX11_extremeEnd_6 (by decide) ?_
  refine lv_istore (lv' := [(5, .int 0), (4, .int (nI (2 ^ h))), (0, .ref (ad 0)), (1, .ref (ad 7)), (2, .int p), (3, .int 1)]) hx hb dX11_extremeEnd_7 hl (by decide) rfl (fun ls hl => ?_)
  refine lv_iload_n hx hb dX11_extremeEnd_9 rfl (lv_at hl 5 rfl) ?_
  refine lv_aload_n hx hb dX11_extremeEnd_10 rfl (lv_at hl 2 rfl) ?_
  refine lv_aload_n hx hb dX11_extremeEnd_11 rfl (lv_at hl 3 rfl) ?_
  refine lv_iload_n hx hb dX11_extremeEnd_12 rfl (lv_at hl 4 rfl) ?_
  refine lv_iconst (v := 0) hx hb dX11_extremeEnd_13 (by decide) ?_
  refine x_callVA (ws' := WC G ad σ) (As := [.ref (ad 7), .int p, .int 0]) (rest := [.int 1]) (st' := [.int (purA (bk h k (σ 8) (σ 9) (σ 10)) p 0), .int 1]) hC hK hZ hA hl.1 hH (k_X11_purseOf_t l G ad σ p 0 h k 0 hb3 hb4 hh4 hk6 hwo hbh rfl (by omega)) lk_X11_124 rfl 0 10 rfl rfl rfl ⟨Nat.le_of_ble_eq_true rfl, Nat.le_of_ble_eq_true rfl⟩ ⟨Nat.le_refl _, Nat.le_refl _⟩ (Nat.le_of_ble_eq_true rfl) rfl dX11_extremeEnd_14 (fun H locs hH => ?_)
  refine lv_imul hx hb dX11_extremeEnd_17 ?_
  refine lv_istore (lv' := [(6, .int (1 * (purA (bk h k (σ 8) (σ 9) (σ 10)) p 0))), (5, .int 0), (4, .int (nI (2 ^ h))), (0, .ref (ad 0)), (1, .ref (ad 7)), (2, .int p), (3, .int 1)]) hx hb dX11_extremeEnd_18 hl (by decide) rfl (fun ls hl => ?_)
  refine lv_iconst (v := 1) hx hb dX11_extremeEnd_20 (by decide) ?_
  refine lv_istore (lv' := [(7, .int 1), (6, .int (1 * (purA (bk h k (σ 8) (σ 9) (σ 10)) p 0))), (5, .int 0), (4, .int (nI (2 ^ h))), (0, .ref (ad 0)), (1, .ref (ad 7)), (2, .int p), (3, .int 1)]) hx hb dX11_extremeEnd_21 hl (by decide) rfl (fun ls hl => ?_)
  refine x_loop (G := G) (A := A) (H0 := sS.heap) (nL := 9) (α := Nat) (fun q_ => (2 ^ h) - q_) (fun q_ => 1 ≤ q_ ∧ q_ ≤ 2 ^ h) (fun q_ => WC G ad σ) (fun q_ => [(0, .ref (ad 0)), (1, .ref (ad 7)), (2, .int p), (3, .int 1), (4, .int (nI (2 ^ h))), (5, .int (nI (bEnd (bk h k (σ 8) (σ 9) (σ 10)) p q_))), (6, .int (1 * (purA (bk h k (σ 8) (σ 9) (σ 10)) p (nI (bEnd (bk h k (σ 8) (σ 9) (σ 10)) p q_))))), (7, .int (nI q_))]) ?_ 1 (show 1 ≤ 1 ∧ 1 ≤ 2 ^ h from ⟨by omega, ph1⟩) ?_ ?_
  · rintro e hi_e ih_e H locs ls hH hl
    replace hi_e : 1 ≤ e ∧ e ≤ 2 ^ h := hi_e
    replace hH : Hx G A (WC G ad σ) sS.heap H locs := hH
    replace hl : lv_has ls 9 [(0, .ref (ad 0)), (1, .ref (ad 7)), (2, .int p), (3, .int 1), (4, .int (nI (2 ^ h))), (5, .int (nI (bEnd (bk h k (σ 8) (σ 9) (σ 10)) p e))), (6, .int (1 * (purA (bk h k (σ 8) (σ 9) (σ 10)) p (nI (bEnd (bk h k (σ 8) (σ 9) (σ 10)) p e))))), (7, .int (nI e))] := hl
    have hi_e1 := hi_e.2
    refine lv_iload hx hb dX11_extremeEnd_23 (lv_at hl 7 rfl) ?_
    refine lv_iload hx hb dX11_extremeEnd_25 (lv_at hl 4 rfl) ?_
    refine lv_icmp_ge (tgt := 63) hx hb dX11_extremeEnd_27 (by decide) (fun c27 => ?_) (fun c27 => ?_)
    · have ge_e := lp_out (n := 2 ^ h) rfl (by omega) (by omega) c27
      have eq_e : e = 2 ^ h := by omega
      refine lv_iload hx hb dX11_extremeEnd_63 (lv_at hl 5 rfl) ?_
      exact x_iret hC hr hkL hH (by rw [eq_e]; rfl) rfl dX11_extremeEnd_65
    · have lt_e := lp_in (n := 2 ^ h) rfl (by omega) (by omega) c27
      refine lv_iload_n hx hb dX11_extremeEnd_30 rfl (lv_at hl 3 rfl) ?_
      refine lv_aload_n hx hb dX11_extremeEnd_31 rfl (lv_at hl 0 rfl) ?_
      refine lv_aload_n hx hb dX11_extremeEnd_32 rfl (lv_at hl 1 rfl) ?_
      refine lv_iload_n hx hb dX11_extremeEnd_33 rfl (lv_at hl 2 rfl) ?_
      refine lv_iload hx hb dX11_extremeEnd_34 (lv_at hl 7 rfl) ?_
      refine x_callVA (ws' := WC G ad σ) (As := [.ref (ad 7), .int p, .int (nI e)]) (rest := [.int 1]) (st' := [.int (purA (bk h k (σ 8) (σ 9) (σ 10)) p (nI e)), .int 1]) hC hK hZ hA hl.1 hH (k_X11_purseOf_t l G ad σ p (nI e) h k e hb3 hb4 hh4 hk6 hwo hbh rfl (by omega)) lk_X11_124 rfl 0 10 rfl rfl rfl ⟨Nat.le_of_ble_eq_true rfl, Nat.le_of_ble_eq_true rfl⟩ ⟨Nat.le_refl _, Nat.le_refl _⟩ (Nat.le_of_ble_eq_true rfl) rfl dX11_extremeEnd_36 (fun H locs hH => ?_)
      refine lv_imul hx hb dX11_extremeEnd_39 ?_
      refine lv_istore (lv' := [(8, .int (1 * (purA (bk h k (σ 8) (σ 9) (σ 10)) p (nI e)))), (0, .ref (ad 0)), (1, .ref (ad 7)), (2, .int p), (3, .int 1), (4, .int (nI (2 ^ h))), (5, .int (nI (bEnd (bk h k (σ 8) (σ 9) (σ 10)) p e))), (6, .int (1 * (purA (bk h k (σ 8) (σ 9) (σ 10)) p (nI (bEnd (bk h k (σ 8) (σ 9) (σ 10)) p e))))), (7, .int (nI e))]) hx hb dX11_extremeEnd_40 hl (by decide) rfl (fun ls hl => ?_)
      refine lv_iload hx hb dX11_extremeEnd_42 (lv_at hl 0 rfl) ?_
      refine lv_iload hx hb dX11_extremeEnd_44 (lv_at hl 7 rfl) ?_
      refine lv_icmp_le (tgt := 57) hx hb dX11_extremeEnd_46 (by decide) (fun c46 => ?_) (fun c46 => ?_)
      · refine lv_iinc (v := ((nI e) + 1)) (lv' := [(7, .int ((nI e) + 1)), (8, .int (1 * (purA (bk h k (σ 8) (σ 9) (σ 10)) p (nI e)))), (0, .ref (ad 0)), (1, .ref (ad 7)), (2, .int p), (3, .int 1), (4, .int (nI (2 ^ h))), (5, .int (nI (bEnd (bk h k (σ 8) (σ 9) (σ 10)) p e))), (6, .int (1 * (purA (bk h k (σ 8) (σ 9) (σ 10)) p (nI (bEnd (bk h k (σ 8) (σ 9) (σ 10)) p e)))))]) hx hb dX11_extremeEnd_57 hl (k := 8) rfl rfl (by decide) rfl (fun ls hl => ?_)
        refine lv_goto (tgt := 23) hx hb dX11_extremeEnd_60 (by decide) ?_
        exact ih_e (e + 1) (show 1 ≤ (e + 1) ∧ (e + 1) ≤ 2 ^ h from ⟨by omega, by omega⟩) (show (2 ^ h) - (e + 1) < (2 ^ h) - e from (by omega)) _ _ _ (hH.eq rfl) (lv_eq (lv_sub hl [2, 3, 4, 5, 6, 7, 8, 0] rfl) (lc_s (lc_s (lc_s (lc_s (lc_s (lc_i (by first | (rw [bEnd_f (Int32.not_lt.mpr (ps_le.mp c46))]; done) | (rw [bEnd_t (Int32.not_le.mp (fun z => c46 (ps_le.mpr z)))]; done) : (nI (bEnd (bk h k (σ 8) (σ 9) (σ 10)) p e)) = (nI (bEnd (bk h k (σ 8) (σ 9) (σ 10)) p (e + 1)))) (lc_i (by first | (rw [bEnd_f (Int32.not_lt.mpr (ps_le.mp c46))]; done) | (rw [bEnd_t (Int32.not_le.mp (fun z => c46 (ps_le.mpr z)))]; done) : (1 * (purA (bk h k (σ 8) (σ 9) (σ 10)) p (nI (bEnd (bk h k (σ 8) (σ 9) (σ 10)) p e)))) = (1 * (purA (bk h k (σ 8) (σ 9) (σ 10)) p (nI (bEnd (bk h k (σ 8) (σ 9) (σ 10)) p (e + 1)))))) (lc_i (by exact nI_1 _ : ((nI e) + 1) = (nI (e + 1))) rfl)))))))))
      · refine lv_iload hx hb dX11_extremeEnd_49 (lv_at hl 0 rfl) ?_
        refine lv_istore (lv' := [(6, .int (1 * (purA (bk h k (σ 8) (σ 9) (σ 10)) p (nI e)))), (8, .int (1 * (purA (bk h k (σ 8) (σ 9) (σ 10)) p (nI e)))), (0, .ref (ad 0)), (1, .ref (ad 7)), (2, .int p), (3, .int 1), (4, .int (nI (2 ^ h))), (5, .int (nI (bEnd (bk h k (σ 8) (σ 9) (σ 10)) p e))), (7, .int (nI e))]) hx hb dX11_extremeEnd_51 hl (by decide) rfl (fun ls hl => ?_)
        refine lv_iload hx hb dX11_extremeEnd_53 (lv_at hl 8 rfl) ?_
        refine lv_istore (lv' := [(5, .int (nI e)), (6, .int (1 * (purA (bk h k (σ 8) (σ 9) (σ 10)) p (nI e)))), (8, .int (1 * (purA (bk h k (σ 8) (σ 9) (σ 10)) p (nI e)))), (0, .ref (ad 0)), (1, .ref (ad 7)), (2, .int p), (3, .int 1), (4, .int (nI (2 ^ h))), (7, .int (nI e))]) hx hb dX11_extremeEnd_55 hl (by decide) rfl (fun ls hl => ?_)
        refine lv_iinc (v := ((nI e) + 1)) (lv' := [(7, .int ((nI e) + 1)), (5, .int (nI e)), (6, .int (1 * (purA (bk h k (σ 8) (σ 9) (σ 10)) p (nI e)))), (8, .int (1 * (purA (bk h k (σ 8) (σ 9) (σ 10)) p (nI e)))), (0, .ref (ad 0)), (1, .ref (ad 7)), (2, .int p), (3, .int 1), (4, .int (nI (2 ^ h)))]) hx hb dX11_extremeEnd_57 hl (k := 8) rfl rfl (by decide) rfl (fun ls hl => ?_)
        refine lv_goto (tgt := 23) hx hb dX11_extremeEnd_60 (by decide) ?_
        exact ih_e (e + 1) (show 1 ≤ (e + 1) ∧ (e + 1) ≤ 2 ^ h from ⟨by omega, by omega⟩) (show (2 ^ h) - (e + 1) < (2 ^ h) - e from (by omega)) _ _ _ (hH.eq rfl) (lv_eq (lv_sub hl [4, 5, 6, 7, 8, 1, 2, 0] rfl) (lc_s (lc_s (lc_s (lc_s (lc_s (lc_i (by first | (rw [bEnd_f (Int32.not_lt.mpr (ps_le.mp c46))]; done) | (rw [bEnd_t (Int32.not_le.mp (fun z => c46 (ps_le.mpr z)))]; done) : (nI e) = (nI (bEnd (bk h k (σ 8) (σ 9) (σ 10)) p (e + 1)))) (lc_i (by first | (rw [bEnd_f (Int32.not_lt.mpr (ps_le.mp c46))]; done) | (rw [bEnd_t (Int32.not_le.mp (fun z => c46 (ps_le.mpr z)))]; done) : (1 * (purA (bk h k (σ 8) (σ 9) (σ 10)) p (nI e))) = (1 * (purA (bk h k (σ 8) (σ 9) (σ 10)) p (nI (bEnd (bk h k (σ 8) (σ 9) (σ 10)) p (e + 1)))))) (lc_i (by exact nI_1 _ : ((nI e) + 1) = (nI (e + 1))) rfl)))))))))
  · exact hH.eq rfl
  · exact lv_eq (lv_sub hl [4, 5, 6, 7, 3, 2, 1, 0] rfl) (lc_s (lc_s (lc_s (lc_s (lc_s (lc_i (by rw [bEnd_1]; rfl : 0 = (nI (bEnd (bk h k (σ 8) (σ 9) (σ 10)) p 1))) (lc_i (by rw [bEnd_1]; rfl : (1 * (purA (bk h k (σ 8) (σ 9) (σ 10)) p 0)) = (1 * (purA (bk h k (σ 8) (σ 9) (σ 10)) p (nI (bEnd (bk h k (σ 8) (σ 9) (σ 10)) p 1))))) (lc_i (by rfl : 1 = (nI 1)) rfl))))))))
set_option maxHeartbeats 4000000 in
set_option maxRecDepth 100000 in
theorem k_X11_worstOf_t (l : Launch) (G : GP) (ad : Nat → Nat) (σ : Nat → Nat → Int32) (p : Int32) (h : Nat) (k : Nat) (hb3 : (σ 7 3) = nI h) (hb4 : (σ 7 4) = nI k) (hh4 : h ≤ 4) (hk6 : k ≤ 6) (hwo : WO (bk h k (σ 8) (σ 9) (σ 10)) (σ 23) (σ 24)) (hbh : BH (bk h k (σ 8) (σ 9) (σ 10))) (hpb : PB (bk h k (σ 8) (σ 9) (σ 10))) : CT l G yX11_worstOf cX11_worstOf 3 (some .int) 5 [.ref (ad 0), .ref (ad 7), .int p] (WC G ad σ) (some (.int (worV (bk h k (σ 8) (σ 9) (σ 10)) p))) (WC G ad σ) := by
  refine x_meth "BetsOnBets" rfl (by decide +kernel) (by rfl) (Nat.le_of_ble_eq_true rfl) ?_
  intro pP eE sS mM args below meth cC A ls hC hr hkL hK hZ hA hH hl
  have hx := hC.1
  have hb := hC.2.1
  have hl : lv_has ls 3 [(0, .ref (ad 0)), (1, .ref (ad 7)), (2, .int p)] := hl
  have pwh := pw4 hh4
  have pwk := pw6 hk6
  have ph1 := Nat.one_le_two_pow (n := h)
  refine lv_aload_n hx hb dX11_worstOf_0 rfl (lv_at hl 0 rfl) ?_
  refine lv_aload_n hx hb dX11_worstOf_1 rfl (lv_at hl 1 rfl) ?_
  refine lv_iload_n hx hb dX11_worstOf_2 rfl (lv_at hl 2 rfl) ?_
  refine lv_aload_n hx hb dX11_worstOf_3 rfl (lv_at hl 0 rfl) ?_
  refine lv_aload_n hx hb dX11_worstOf_4 rfl (lv_at hl 1 rfl) ?_
  refine lv_iload_n hx hb dX11_worstOf_5 rfl (lv_at hl 2 rfl) ?_
  refine lv_iconst (v := (-1)) hx hb dX11_worstOf_6 (by decide) ?_
  refine x_callVA (ws' := WC G ad σ) (As := [.ref (ad 7), .int p, .int (-1)]) (rest := [.int p, .ref (ad 7), .ref (ad 0)]) (st' := [.int (nI (wEA (bk h k (σ 8) (σ 9) (σ 10)) p)), .int p, .ref (ad 7), .ref (ad 0)]) hC hK hZ hA hl.1 hH (k_X11_extremeEnd_tm l G ad σ p (-1) h k hb3 hb4 hh4 hk6 hwo hbh hpb rfl) lk_X11_136 rfl 0 10 rfl rfl rfl ⟨Nat.le_of_ble_eq_true rfl, Nat.le_of_ble_eq_true rfl⟩ ⟨Nat.le_refl _, Nat.le_refl _⟩ (Nat.le_of_ble_eq_true rfl) rfl dX11_worstOf_7 (fun H locs hH => ?_)
  refine x_callVA (ws' := WC G ad σ) (As := [.ref (ad 7), .int p, .int (nI (wEA (bk h k (σ 8) (σ 9) (σ 10)) p))]) (rest := []) (st' := [.int (purA (bk h k (σ 8) (σ 9) (σ 10)) p (nI (wEA (bk h k (σ 8) (σ 9) (σ 10)) p)))]) hC hK hZ hA hl.1 hH (k_X11_purseOf_t l G ad σ p (nI (wEA (bk h k (σ 8) (σ 9) (σ 10)) p)) h k (wEA (bk h k (σ 8) (σ 9) (σ 10)) p) hb3 hb4 hh4 hk6 hwo hbh rfl (show wEnd _ _ (2 ^ h) < 2 ^ h from wEnd_lt _ _ _ (by omega))) lk_X11_124 rfl 0 10 rfl rfl rfl ⟨Nat.le_of_ble_eq_true rfl, Nat.le_of_ble_eq_true rfl⟩ ⟨Nat.le_refl _, Nat.le_refl _⟩ (Nat.le_of_ble_eq_true rfl) rfl dX11_worstOf_10 (fun H locs hH => ?_)
  exact x_iret hC hr hkL hH (by first | rfl | simp) rfl dX11_worstOf_13
set_option maxHeartbeats 4000000 in
set_option maxRecDepth 100000 in
theorem k_X11_bettorsGain_r (l : Launch) (G : GP) (ad : Nat → Nat) (σ : Nat → Nat → Int32) (b : Int32) (e : Int32) (bj : Nat) (ej : Nat) (hbN : b = nI bj) (hbk : bj < 6) (he : e = nI ej) (he16 : ej < 16) : CT l G yX11_bettorsGain cX11_bettorsGain 5 (some .int) 2 [.ref (ad 0), .ref (ad 11), .int b, .int e] (WC G ad σ) (some (.int (gnP (stW ((σ 23) ej) ((σ 24) ej) b) ((σ 13) (7 * bj + 3)) ((σ 13) (7 * bj + 4))))) (WC G ad σ) := by
  refine x_meth "BetsOnBets" rfl (by decide +kernel) (by rfl) (Nat.le_of_ble_eq_true rfl) ?_
  intro pP eE sS mM args below meth cC A ls hC hr hkL hK hZ hA hH hl
  have hx := hC.1
  have hb := hC.2.1
  have hl : lv_has ls 5 [(0, .ref (ad 0)), (1, .ref (ad 11)), (2, .int b), (3, .int e)] := hl
  refine lv_aload_n hx hb dX11_bettorsGain_0 rfl (lv_at hl 1 rfl) ?_
  refine lv_iload_n hx hb dX11_bettorsGain_1 rfl (lv_at hl 2 rfl) ?_
  refine lv_iconst (v := 3) hx hb dX11_bettorsGain_2 (by decide) ?_
  refine x_callV (ws' := WC G ad σ) (As := [.int b, .int 3]) (rest := []) (st' := [.int ((σ 13) (7 * bj + 3))]) hC hK hZ hA hl.1 hH (k_X2_numberOf l G (pk ad [11, 12, 13, 14]) (pk σ [11, 12, 13, 14]) b 3 bj 3 hbN rfl hbk (by decide)) lk_X11_91 [11, 12, 13, 14] rfl rfl rfl 11 1 rfl rfl rfl ⟨Nat.le_of_ble_eq_true rfl, Nat.le_of_ble_eq_true rfl⟩ ⟨Nat.le_refl _, Nat.le_refl _⟩ (Nat.le_of_ble_eq_true rfl) rfl dX11_bettorsGain_3 (fun H locs hH => ?_)
  refine lv_istore (lv' := [(4, .int ((σ 13) (7 * bj + 3))), (0, .ref (ad 0)), (1, .ref (ad 11)), (2, .int b), (3, .int e)]) hx hb dX11_bettorsGain_6 hl (by decide) rfl (fun ls hl => ?_)
  refine lv_aload_n hx hb dX11_bettorsGain_8 rfl (lv_at hl 1 rfl) ?_
  refine gf_X11_41 (v := .ref (ad 19)) hC hK hH 0 rfl rfl dX11_bettorsGain_9 ?_
  refine lv_iload_n hx hb dX11_bettorsGain_12 rfl (lv_at hl 3 rfl) ?_
  refine lv_iload_n hx hb dX11_bettorsGain_13 rfl (lv_at hl 4 rfl) ?_
  refine x_callV (ws' := WC G ad σ) (As := [.int b, .int e]) (rest := []) (st' := [.int (stW ((σ 23) ej) ((σ 24) ej) b)]) hC hK hZ hA hl.1 hH (k_X10_standingOf l G (pk ad [19, 20, 21, 22, 23, 24, 25, 26, 27, 28, 29, 30]) (pk σ [19, 20, 21, 22, 23, 24, 25, 26, 27, 28, 29, 30]) b e ej he he16) lk_X11_118 [19, 20, 21, 22, 23, 24, 25, 26, 27, 28, 29, 30] rfl rfl rfl 19 9 rfl rfl rfl ⟨Nat.le_of_ble_eq_true rfl, Nat.le_of_ble_eq_true rfl⟩ ⟨Nat.le_refl _, Nat.le_refl _⟩ (Nat.le_of_ble_eq_true rfl) rfl dX11_bettorsGain_14 (fun H locs hH => ?_)
  rcases sw2 (stW ((σ 23) ej) ((σ 24) ej) b) with h0 | h1 | hd
  · refine x_topE (y := 0) h0 ?_
    refine lv_lookup (tgt := 54) hx hb dX11_bettorsGain_17 (by decide) rfl (by decide) ?_
    refine lv_iload hx hb dX11_bettorsGain_54 (lv_at hl 0 rfl) ?_
    refine lv_ineg hx hb dX11_bettorsGain_56 ?_
    exact x_iret hC hr hkL hH (by exact gnP_0 h0) rfl dX11_bettorsGain_57
  · refine x_topE (y := 1) h1 ?_
    refine lv_lookup (tgt := 44) hx hb dX11_bettorsGain_17 (by decide) rfl (by decide) ?_
    refine lv_iload hx hb dX11_bettorsGain_44 (lv_at hl 0 rfl) ?_
    refine lv_aload_n hx hb dX11_bettorsGain_46 rfl (lv_at hl 2 rfl) ?_
    refine lv_iload_n hx hb dX11_bettorsGain_47 rfl (lv_at hl 3 rfl) ?_
    refine lv_iconst (v := 4) hx hb dX11_bettorsGain_48 (by decide) ?_
    refine x_callV (ws' := WC G ad σ) (As := [.int b, .int 4]) (rest := [.int ((σ 13) (7 * bj + 3))]) (st' := [.int ((σ 13) (7 * bj + 4)), .int ((σ 13) (7 * bj + 3))]) hC hK hZ hA hl.1 hH (k_X2_numberOf l G (pk ad [11, 12, 13, 14]) (pk σ [11, 12, 13, 14]) b 4 bj 4 hbN rfl hbk (by decide)) lk_X11_91 [11, 12, 13, 14] rfl rfl rfl 11 1 rfl rfl rfl ⟨Nat.le_of_ble_eq_true rfl, Nat.le_of_ble_eq_true rfl⟩ ⟨Nat.le_refl _, Nat.le_refl _⟩ (Nat.le_of_ble_eq_true rfl) rfl dX11_bettorsGain_49 (fun H locs hH => ?_)
    refine lv_imul hx hb dX11_bettorsGain_52 ?_
    exact x_iret hC hr hkL hH (by exact gnP_1 h1) rfl dX11_bettorsGain_53
  · refine lv_lookup (off := 41) (tgt := 58) hx hb dX11_bettorsGain_17 (by decide) (by show Op.lookupswitch.offset [(0, 37), (1, 27)] 41 _ = _; rw [lv_osw hd.1 (show Int32.toInt 0 = 0 from rfl), lv_osw hd.2 (show Int32.toInt 1 = 1 from rfl)]; rfl) (by decide) ?_
    refine lv_iconst (v := 0) hx hb dX11_bettorsGain_58 (by decide) ?_
    exact x_iret hC hr hkL hH (by exact gnP_d hd.1 hd.2) rfl dX11_bettorsGain_59
set_option maxHeartbeats 4000000 in
set_option maxRecDepth 100000 in
theorem k_X11_purseOf_r (l : Launch) (G : GP) (ad : Nat → Nat) (σ : Nat → Nat → Int32) (p : Int32) (e : Int32) (h : Nat) (k : Nat) (ej : Nat) (hb3 : (σ 11 3) = nI h) (hb4 : (σ 11 4) = nI k) (hh4 : h ≤ 4) (hk6 : k ≤ 6) (hwo : WO (bk h k (σ 12) (σ 13) (σ 14)) (σ 23) (σ 24)) (hbh : BH (bk h k (σ 12) (σ 13) (σ 14))) (he : e = nI ej) (he2 : ej < 2 ^ h) : CT l G yX11_purseOf cX11_purseOf 7 (some .int) 3 [.ref (ad 0), .ref (ad 11), .int p, .int e] (WC G ad σ) (some (.int (purA (bk h k (σ 12) (σ 13) (σ 14)) p e))) (WC G ad σ) := by
  refine x_meth "BetsOnBets" rfl (by decide +kernel) (by rfl) (Nat.le_of_ble_eq_true rfl) ?_
  intro pP eE sS mM args below meth cC A ls hC hr hkL hK hZ hA hH hl
  have hx := hC.1
  have hb := hC.2.1
  have hl : lv_has ls 7 [(0, .ref (ad 0)), (1, .ref (ad 11)), (2, .int p), (3, .int e)] := hl
  have pwh := pw4 hh4
  have pwk := pw6 hk6
  have ph1 := Nat.one_le_two_pow (n := h)
  refine lv_iconst (v := 0) hx hb dX11_purseOf_0 (by decide) ?_
  refine lv_istore (lv' := [(4, .int 0), (0, .ref (ad 0)), (1, .ref (ad 11)), (2, .int p), (3, .int e)]) hx hb dX11_purseOf_1 hl (by decide) rfl (fun ls hl => ?_)
  refine lv_iconst (v := 0) hx hb dX11_purseOf_3 (by decide) ?_
  refine lv_istore (lv' := [(5, .int 0), (4, .int 0), (0, .ref (ad 0)), (1, .ref (ad 11)), (2, .int p), (3, .int e)]) hx hb dX11_purseOf_4 hl (by decide) rfl (fun ls hl => ?_)
  refine x_loop (G := G) (A := A) (H0 := sS.heap) (nL := 7) (α := Nat) (fun q_ => k - q_) (fun q_ => q_ ≤ k) (fun q_ => WC G ad σ) (fun q_ => [(0, .ref (ad 0)), (1, .ref (ad 11)), (2, .int p), (3, .int e), (4, .int (purR (bk h k (σ 12) (σ 13) (σ 14)) p e q_)), (5, .int (nI q_))]) ?_ 0 (show 0 ≤ k from (Nat.zero_le _)) ?_ ?_
  · rintro b hi_b ih_b H locs ls hH hl
    replace hi_b : b ≤ k := hi_b
    replace hH : Hx G A (WC G ad σ) sS.heap H locs := hH
    replace hl : lv_has ls 7 [(0, .ref (ad 0)), (1, .ref (ad 11)), (2, .int p), (3, .int e), (4, .int (purR (bk h k (σ 12) (σ 13) (σ 14)) p e b)), (5, .int (nI b))] := hl
    refine lv_iload hx hb dX11_purseOf_6 (lv_at hl 5 rfl) ?_
    refine lv_aload_n hx hb dX11_purseOf_8 rfl (lv_at hl 1 rfl) ?_
    refine gf_X11_160 (v := .int (σ 11 4)) hC hK hH 11 rfl rfl dX11_purseOf_9 ?_
    refine x_topE (y := (nI k)) hb4 ?_
    refine lv_icmp_ge (tgt := 68) hx hb dX11_purseOf_12 (by decide) (fun c12 => ?_) (fun c12 => ?_)
    · have ge_b := lp_out (n := k) rfl (by omega) (by omega) c12
      have eq_b : b = k := by omega
      refine lv_iload hx hb dX11_purseOf_68 (lv_at hl 4 rfl) ?_
      exact x_iret hC hr hkL hH (by rw [eq_b]; rfl) rfl dX11_purseOf_70
    · have lt_b := lp_in (n := k) rfl (by omega) (by omega) c12
      refine lv_aload_n hx hb dX11_purseOf_15 rfl (lv_at hl 0 rfl) ?_
      refine lv_aload_n hx hb dX11_purseOf_16 rfl (lv_at hl 1 rfl) ?_
      refine lv_iload hx hb dX11_purseOf_17 (lv_at hl 5 rfl) ?_
      refine lv_iload_n hx hb dX11_purseOf_19 rfl (lv_at hl 3 rfl) ?_
      refine x_callVA (ws' := WC G ad σ) (As := [.ref (ad 11), .int (nI b), .int e]) (rest := []) (st' := [.int (gnP (stW ((σ 23) ej) ((σ 24) ej) (nI b)) ((σ 13) (7 * b + 3)) ((σ 13) (7 * b + 4)))]) hC hK hZ hA hl.1 hH (k_X11_bettorsGain_r l G ad σ (nI b) e b ej rfl (by omega) he (by omega)) lk_X11_229 rfl 0 10 rfl rfl rfl ⟨Nat.le_of_ble_eq_true rfl, Nat.le_of_ble_eq_true rfl⟩ ⟨Nat.le_refl _, Nat.le_refl _⟩ (Nat.le_of_ble_eq_true rfl) rfl dX11_purseOf_20 (fun H locs hH => ?_)
      refine x_topE (y := (gnP (stP (bk h k (σ 12) (σ 13) (σ 14)) e b) (nm (bk h k (σ 12) (σ 13) (σ 14)) b 3) (nm (bk h k (σ 12) (σ 13) (σ 14)) b 4))) (by rw [hwo ej he2 b (show b < bK _ from lt_b), ← he]; rfl) ?_
      refine lv_istore (lv' := [(6, .int (gnP (stP (bk h k (σ 12) (σ 13) (σ 14)) e b) (nm (bk h k (σ 12) (σ 13) (σ 14)) b 3) (nm (bk h k (σ 12) (σ 13) (σ 14)) b 4))), (0, .ref (ad 0)), (1, .ref (ad 11)), (2, .int p), (3, .int e), (4, .int (purR (bk h k (σ 12) (σ 13) (σ 14)) p e b)), (5, .int (nI b))]) hx hb dX11_purseOf_23 hl (by decide) rfl (fun ls hl => ?_)
      refine lv_aload_n hx hb dX11_purseOf_25 rfl (lv_at hl 2 rfl) ?_
      refine lv_iload hx hb dX11_purseOf_26 (lv_at hl 6 rfl) ?_
      refine lv_iconst (v := 5) hx hb dX11_purseOf_28 (by decide) ?_
      refine x_callV (ws' := WC G ad σ) (As := [.int (nI b), .int 5]) (rest := []) (st' := [.int ((σ 13) (7 * b + 5))]) hC hK hZ hA hl.1 hH (k_X2_numberOf l G (pk ad [11, 12, 13, 14]) (pk σ [11, 12, 13, 14]) (nI b) 5 b 5 rfl rfl (by omega) (by decide)) lk_X11_91 [11, 12, 13, 14] rfl rfl rfl 11 1 rfl rfl rfl ⟨Nat.le_of_ble_eq_true rfl, Nat.le_of_ble_eq_true rfl⟩ ⟨Nat.le_refl _, Nat.le_refl _⟩ (Nat.le_of_ble_eq_true rfl) rfl dX11_purseOf_29 (fun H locs hH => ?_)
      refine x_topE (y := (nm (bk h k (σ 12) (σ 13) (σ 14)) b 5)) rfl ?_
      refine lv_iload_n hx hb dX11_purseOf_32 rfl (lv_at hl 3 rfl) ?_
      refine lv_icmp_ne (tgt := 43) hx hb dX11_purseOf_33 (by decide) (fun c33 => ?_) (fun c33 => ?_)
      · refine lv_aload_n hx hb dX11_purseOf_43 rfl (lv_at hl 2 rfl) ?_
        refine lv_iload hx hb dX11_purseOf_44 (lv_at hl 6 rfl) ?_
        refine lv_bipush (v := 6) hx hb dX11_purseOf_46 (by decide) ?_
        refine x_callV (ws' := WC G ad σ) (As := [.int (nI b), .int 6]) (rest := []) (st' := [.int ((σ 13) (7 * b + 6))]) hC hK hZ hA hl.1 hH (k_X2_numberOf l G (pk ad [11, 12, 13, 14]) (pk σ [11, 12, 13, 14]) (nI b) 6 b 6 rfl rfl (by omega) (by decide)) lk_X11_91 [11, 12, 13, 14] rfl rfl rfl 11 1 rfl rfl rfl ⟨Nat.le_of_ble_eq_true rfl, Nat.le_of_ble_eq_true rfl⟩ ⟨Nat.le_refl _, Nat.le_refl _⟩ (Nat.le_of_ble_eq_true rfl) rfl dX11_purseOf_48 (fun H locs hH => ?_)
        refine x_topE (y := (nm (bk h k (σ 12) (σ 13) (σ 14)) b 6)) rfl ?_
        refine lv_iload_n hx hb dX11_purseOf_51 rfl (lv_at hl 3 rfl) ?_
        refine lv_icmp_ne (tgt := 62) hx hb dX11_purseOf_52 (by decide) (fun c52 => ?_) (fun c52 => ?_)
        · refine lv_iinc (v := ((nI b) + 1)) (lv' := [(5, .int ((nI b) + 1)), (6, .int (gnP (stP (bk h k (σ 12) (σ 13) (σ 14)) e b) (nm (bk h k (σ 12) (σ 13) (σ 14)) b 3) (nm (bk h k (σ 12) (σ 13) (σ 14)) b 4))), (0, .ref (ad 0)), (1, .ref (ad 11)), (2, .int p), (3, .int e), (4, .int (purR (bk h k (σ 12) (σ 13) (σ 14)) p e b))]) hx hb dX11_purseOf_62 hl (k := 6) rfl rfl (by decide) rfl (fun ls hl => ?_)
          refine lv_goto (tgt := 6) hx hb dX11_purseOf_65 (by decide) ?_
          exact ih_b (b + 1) (show (b + 1) ≤ k from (by omega)) (show k - (b + 1) < k - b from (by omega)) _ _ _ (hH.eq rfl) (lv_eq (lv_sub hl [2, 3, 4, 5, 6, 0] rfl) (lc_s (lc_s (lc_s (lc_s (lc_i (by first | exact st_b c33 | exact st_h c33 c52 | exact st_n c33 c52 : (purR (bk h k (σ 12) (σ 13) (σ 14)) p e b) = (purR (bk h k (σ 12) (σ 13) (σ 14)) p e (b + 1))) (lc_i (by exact nI_1 _ : ((nI b) + 1) = (nI (b + 1))) rfl)))))))
        · refine lv_iload hx hb dX11_purseOf_55 (lv_at hl 5 rfl) ?_
          refine lv_iload hx hb dX11_purseOf_57 (lv_at hl 0 rfl) ?_
          refine lv_isub hx hb dX11_purseOf_59 ?_
          refine lv_istore (lv' := [(4, .int ((purR (bk h k (σ 12) (σ 13) (σ 14)) p e b) - (gnP (stP (bk h k (σ 12) (σ 13) (σ 14)) e b) (nm (bk h k (σ 12) (σ 13) (σ 14)) b 3) (nm (bk h k (σ 12) (σ 13) (σ 14)) b 4)))), (6, .int (gnP (stP (bk h k (σ 12) (σ 13) (σ 14)) e b) (nm (bk h k (σ 12) (σ 13) (σ 14)) b 3) (nm (bk h k (σ 12) (σ 13) (σ 14)) b 4))), (0, .ref (ad 0)), (1, .ref (ad 11)), (2, .int p), (3, .int e), (5, .int (nI b))]) hx hb dX11_purseOf_60 hl (by decide) rfl (fun ls hl => ?_)
          refine lv_iinc (v := ((nI b) + 1)) (lv' := [(5, .int ((nI b) + 1)), (4, .int ((purR (bk h k (σ 12) (σ 13) (σ 14)) p e b) - (gnP (stP (bk h k (σ 12) (σ 13) (σ 14)) e b) (nm (bk h k (σ 12) (σ 13) (σ 14)) b 3) (nm (bk h k (σ 12) (σ 13) (σ 14)) b 4)))), (6, .int (gnP (stP (bk h k (σ 12) (σ 13) (σ 14)) e b) (nm (bk h k (σ 12) (σ 13) (σ 14)) b 3) (nm (bk h k (σ 12) (σ 13) (σ 14)) b 4))), (0, .ref (ad 0)), (1, .ref (ad 11)), (2, .int p), (3, .int e)]) hx hb dX11_purseOf_62 hl (k := 6) rfl rfl (by decide) rfl (fun ls hl => ?_)
          refine lv_goto (tgt := 6) hx hb dX11_purseOf_65 (by decide) ?_
          exact ih_b (b + 1) (show (b + 1) ≤ k from (by omega)) (show k - (b + 1) < k - b from (by omega)) _ _ _ (hH.eq rfl) (lv_eq (lv_sub hl [3, 4, 5, 6, 1, 0] rfl) (lc_s (lc_s (lc_s (lc_s (lc_i (by first | exact st_b c33 | exact st_h c33 c52 | exact st_n c33 c52 : ((purR (bk h k (σ 12) (σ 13) (σ 14)) p e b) - (gnP (stP (bk h k (σ 12) (σ 13) (σ 14)) e b) (nm (bk h k (σ 12) (σ 13) (σ 14)) b 3) (nm (bk h k (σ 12) (σ 13) (σ 14)) b 4))) = (purR (bk h k (σ 12) (σ 13) (σ 14)) p e (b + 1))) (lc_i (by exact nI_1 _ : ((nI b) + 1) = (nI (b + 1))) rfl)))))))
      · refine lv_iload hx hb dX11_purseOf_36 (lv_at hl 5 rfl) ?_
        refine lv_iload hx hb dX11_purseOf_38 (lv_at hl 0 rfl) ?_
        refine lv_iadd hx hb dX11_purseOf_40 ?_
        refine lv_istore (lv' := [(4, .int ((purR (bk h k (σ 12) (σ 13) (σ 14)) p e b) + (gnP (stP (bk h k (σ 12) (σ 13) (σ 14)) e b) (nm (bk h k (σ 12) (σ 13) (σ 14)) b 3) (nm (bk h k (σ 12) (σ 13) (σ 14)) b 4)))), (6, .int (gnP (stP (bk h k (σ 12) (σ 13) (σ 14)) e b) (nm (bk h k (σ 12) (σ 13) (σ 14)) b 3) (nm (bk h k (σ 12) (σ 13) (σ 14)) b 4))), (0, .ref (ad 0)), (1, .ref (ad 11)), (2, .int p), (3, .int e), (5, .int (nI b))]) hx hb dX11_purseOf_41 hl (by decide) rfl (fun ls hl => ?_)
        refine lv_aload_n hx hb dX11_purseOf_43 rfl (lv_at hl 3 rfl) ?_
        refine lv_iload hx hb dX11_purseOf_44 (lv_at hl 6 rfl) ?_
        refine lv_bipush (v := 6) hx hb dX11_purseOf_46 (by decide) ?_
        refine x_callV (ws' := WC G ad σ) (As := [.int (nI b), .int 6]) (rest := []) (st' := [.int ((σ 13) (7 * b + 6))]) hC hK hZ hA hl.1 hH (k_X2_numberOf l G (pk ad [11, 12, 13, 14]) (pk σ [11, 12, 13, 14]) (nI b) 6 b 6 rfl rfl (by omega) (by decide)) lk_X11_91 [11, 12, 13, 14] rfl rfl rfl 11 1 rfl rfl rfl ⟨Nat.le_of_ble_eq_true rfl, Nat.le_of_ble_eq_true rfl⟩ ⟨Nat.le_refl _, Nat.le_refl _⟩ (Nat.le_of_ble_eq_true rfl) rfl dX11_purseOf_48 (fun H locs hH => ?_)
        refine x_topE (y := (nm (bk h k (σ 12) (σ 13) (σ 14)) b 6)) rfl ?_
        refine lv_iload_n hx hb dX11_purseOf_51 rfl (lv_at hl 4 rfl) ?_
        refine lv_icmp_ne (tgt := 62) hx hb dX11_purseOf_52 (by decide) (fun c52 => ?_) (fun c52 => ?_)
        rotate_left
        · exact absurd (c33.trans c52.symm) (hbh b (show b < bK _ from lt_b))
        refine lv_iinc (v := ((nI b) + 1)) (lv' := [(5, .int ((nI b) + 1)), (4, .int ((purR (bk h k (σ 12) (σ 13) (σ 14)) p e b) + (gnP (stP (bk h k (σ 12) (σ 13) (σ 14)) e b) (nm (bk h k (σ 12) (σ 13) (σ 14)) b 3) (nm (bk h k (σ 12) (σ 13) (σ 14)) b 4)))), (6, .int (gnP (stP (bk h k (σ 12) (σ 13) (σ 14)) e b) (nm (bk h k (σ 12) (σ 13) (σ 14)) b 3) (nm (bk h k (σ 12) (σ 13) (σ 14)) b 4))), (0, .ref (ad 0)), (1, .ref (ad 11)), (2, .int p), (3, .int e)]) hx hb dX11_purseOf_62 hl (k := 6) rfl rfl (by decide) rfl (fun ls hl => ?_)
        refine lv_goto (tgt := 6) hx hb dX11_purseOf_65 (by decide) ?_
        exact ih_b (b + 1) (show (b + 1) ≤ k from (by omega)) (show k - (b + 1) < k - b from (by omega)) _ _ _ (hH.eq rfl) (lv_eq (lv_sub hl [3, 4, 5, 6, 1, 0] rfl) (lc_s (lc_s (lc_s (lc_s (lc_i (by first | exact st_b c33 | exact st_h c33 c52 | exact st_n c33 c52 : ((purR (bk h k (σ 12) (σ 13) (σ 14)) p e b) + (gnP (stP (bk h k (σ 12) (σ 13) (σ 14)) e b) (nm (bk h k (σ 12) (σ 13) (σ 14)) b 3) (nm (bk h k (σ 12) (σ 13) (σ 14)) b 4))) = (purR (bk h k (σ 12) (σ 13) (σ 14)) p e (b + 1))) (lc_i (by exact nI_1 _ : ((nI b) + 1) = (nI (b + 1))) rfl)))))))
  · exact hH.eq rfl
  · exact lv_eq (lv_sub hl [2, 3, 4, 5, 1, 0] rfl) (lc_s (lc_s (lc_s (lc_s (lc_i (by rfl : 0 = (purR (bk h k (σ 12) (σ 13) (σ 14)) p e 0)) (lc_i (by rfl : 0 = (nI 0)) rfl))))))
set_option maxHeartbeats 4000000 in
set_option maxRecDepth 100000 in
theorem k_X11_meanOf_r (l : Launch) (G : GP) (ad : Nat → Nat) (σ : Nat → Nat → Int32) (p : Int32) (h : Nat) (k : Nat) (hb3 : (σ 11 3) = nI h) (hb4 : (σ 11 4) = nI k) (hh4 : h ≤ 4) (hk6 : k ≤ 6) (hwo : WO (bk h k (σ 12) (σ 13) (σ 14)) (σ 23) (σ 24)) (hbh : BH (bk h k (σ 12) (σ 13) (σ 14))) : CT l G yX11_meanOf cX11_meanOf 7 (some .int) 4 [.ref (ad 0), .ref (ad 11), .int p] (WC G ad σ) (some (.int (meanA (bk h k (σ 12) (σ 13) (σ 14)) p))) (WC G ad σ) := by
  refine x_meth "BetsOnBets" rfl (by decide +kernel) (by rfl) (Nat.le_of_ble_eq_true rfl) ?_
  intro pP eE sS mM args below meth cC A ls hC hr hkL hK hZ hA hH hl
  have hx := hC.1
  have hb := hC.2.1
  have hl : lv_has ls 7 [(0, .ref (ad 0)), (1, .ref (ad 11)), (2, .int p)] := hl
  have pwh := pw4 hh4
  have pwk := pw6 hk6
  have ph1 := Nat.one_le_two_pow (n := h)
  refine lv_aload_n hx hb dX11_meanOf_0 rfl (lv_at hl 1 rfl) ?_
  refine x_callV (ws' := WC G ad σ) (As := []) (rest := []) (st' := [.int (nI (2 ^ h))]) hC hK hZ hA hl.1 hH (k_X2_ends l G (pk ad [11, 12, 13, 14]) (pk σ [11, 12, 13, 14]) h k hb3 hb4 hh4 hk6) lk_X11_139 [11, 12, 13, 14] rfl rfl rfl 11 1 rfl rfl rfl ⟨Nat.le_of_ble_eq_true rfl, Nat.le_of_ble_eq_true rfl⟩ ⟨Nat.le_refl _, Nat.le_refl _⟩ (Nat.le_of_ble_eq_true rfl) rfl dX11_meanOf_1 (fun H locs hH => ?_)
  refine lv_istore_n (lv' := [(3, .int (nI (2 ^ h))), (0, .ref (ad 0)), (1, .ref (ad 11)), (2, .int p)]) hx hb dX11_meanOf_4 rfl hl (by decide) rfl (fun ls hl => ?_)
  refine lv_lconst (v := 0) hx hb dX11_meanOf_5 (by decide) ?_
  refine lv_lstore (lv' := [(4, .long (0 : Int64)), (3, .int (nI (2 ^ h))), (0, .ref (ad 0)), (1, .ref (ad 11)), (2, .int p)]) hx hb dX11_meanOf_6 hl (by decide) rfl (fun ls hl => ?_)
  refine lv_iconst (v := 0) hx hb dX11_meanOf_8 (by decide) ?_
  refine lv_istore (lv' := [(6, .int 0), (4, .long (0 : Int64)), (3, .int (nI (2 ^ h))), (0, .ref (ad 0)), (1, .ref (ad 11)), (2, .int p)]) hx hb dX11_meanOf_9 hl (by decide) rfl (fun ls hl => ?_)
  refine x_loop (G := G) (A := A) (H0 := sS.heap) (nL := 7) (α := Nat) (fun q_ => (2 ^ h) - q_) (fun q_ => q_ ≤ (2 ^ h)) (fun q_ => WC G ad σ) (fun q_ => [(0, .ref (ad 0)), (1, .ref (ad 11)), (2, .int p), (3, .int (nI (2 ^ h))), (4, .long (sumM (bk h k (σ 12) (σ 13) (σ 14)) p q_)), (6, .int (nI q_))]) ?_ 0 (show 0 ≤ (2 ^ h) from (Nat.zero_le _)) ?_ ?_
  · rintro e hi_e ih_e H locs ls hH hl
    replace hi_e : e ≤ (2 ^ h) := hi_e
    replace hH : Hx G A (WC G ad σ) sS.heap H locs := hH
    replace hl : lv_has ls 7 [(0, .ref (ad 0)), (1, .ref (ad 11)), (2, .int p), (3, .int (nI (2 ^ h))), (4, .long (sumM (bk h k (σ 12) (σ 13) (σ 14)) p e)), (6, .int (nI e))] := hl
    refine lv_iload hx hb dX11_meanOf_11 (lv_at hl 5 rfl) ?_
    refine lv_iload_n hx hb dX11_meanOf_13 rfl (lv_at hl 3 rfl) ?_
    refine lv_icmp_ge (tgt := 44) hx hb dX11_meanOf_14 (by decide) (fun c14 => ?_) (fun c14 => ?_)
    · have ge_e := lp_out (n := 2 ^ h) rfl (by omega) (by omega) c14
      have eq_e : e = 2 ^ h := by omega
      refine lv_aload_n hx hb dX11_meanOf_44 rfl (lv_at hl 1 rfl) ?_
      refine lv_lload hx hb dX11_meanOf_45 (lv_at hl 4 rfl) ?_
      refine x_callS (ws' := WC G ad σ) (As := [.ref (ad 11), .long (sumM (bk h k (σ 12) (σ 13) (σ 14)) p e)]) (rest := []) (st' := [.int ((((sumM (bk h k (σ 12) (σ 13) (σ 14)) p e) * 100) / whl h).toInt32)]) hC hK hZ hA hl.1 hH (k_X11_inHundredths l G (pk ad [11, 12, 13, 14]) (pk σ [11, 12, 13, 14]) (sumM (bk h k (σ 12) (σ 13) (σ 14)) p e) h k hb3 hb4 hh4 hk6) lk_X11_146 [11, 12, 13, 14] rfl rfl rfl rfl ⟨Nat.le_of_ble_eq_true rfl, Nat.le_of_ble_eq_true rfl⟩ ⟨Nat.le_refl _, Nat.le_refl _⟩ (Nat.le_of_ble_eq_true rfl) rfl dX11_meanOf_47 (fun H locs hH => ?_)
      exact x_iret hC hr hkL hH (by rw [eq_e, meanA, Int64.mul_comm]; rfl) rfl dX11_meanOf_50
    · have lt_e := lp_in (n := 2 ^ h) rfl (by omega) (by omega) c14
      refine lv_lload hx hb dX11_meanOf_17 (lv_at hl 4 rfl) ?_
      refine lv_aload_n hx hb dX11_meanOf_19 rfl (lv_at hl 1 rfl) ?_
      refine lv_iload hx hb dX11_meanOf_20 (lv_at hl 5 rfl) ?_
      refine x_callV (ws' := WC G ad σ) (As := [.int (nI e)]) (rest := [.long (sumM (bk h k (σ 12) (σ 13) (σ 14)) p e)]) (st' := [.long (wgtA (bk h k (σ 12) (σ 13) (σ 14)) (nI e)), .long (sumM (bk h k (σ 12) (σ 13) (σ 14)) p e)]) hC hK hZ hA hl.1 hH (k_X2_weightOf l G (pk ad [11, 12, 13, 14]) (pk σ [11, 12, 13, 14]) (nI e) h k hb3 hb4 hh4 hk6) lk_X11_142 [11, 12, 13, 14] rfl rfl rfl 11 1 rfl rfl rfl ⟨Nat.le_of_ble_eq_true rfl, Nat.le_of_ble_eq_true rfl⟩ ⟨Nat.le_refl _, Nat.le_refl _⟩ (Nat.le_of_ble_eq_true rfl) rfl dX11_meanOf_22 (fun H locs hH => ?_)
      refine lv_aload_n hx hb dX11_meanOf_25 rfl (lv_at hl 0 rfl) ?_
      refine lv_aload_n hx hb dX11_meanOf_26 rfl (lv_at hl 1 rfl) ?_
      refine lv_iload_n hx hb dX11_meanOf_27 rfl (lv_at hl 2 rfl) ?_
      refine lv_iload hx hb dX11_meanOf_28 (lv_at hl 5 rfl) ?_
      refine x_callVA (ws' := WC G ad σ) (As := [.ref (ad 11), .int p, .int (nI e)]) (rest := [.long (wgtA (bk h k (σ 12) (σ 13) (σ 14)) (nI e)), .long (sumM (bk h k (σ 12) (σ 13) (σ 14)) p e)]) (st' := [.int (purA (bk h k (σ 12) (σ 13) (σ 14)) p (nI e)), .long (wgtA (bk h k (σ 12) (σ 13) (σ 14)) (nI e)), .long (sumM (bk h k (σ 12) (σ 13) (σ 14)) p e)]) hC hK hZ hA hl.1 hH (k_X11_purseOf_r l G ad σ p (nI e) h k e hb3 hb4 hh4 hk6 hwo hbh rfl (by omega)) lk_X11_124 rfl 0 10 rfl rfl rfl ⟨Nat.le_of_ble_eq_true rfl, Nat.le_of_ble_eq_true rfl⟩ ⟨Nat.le_refl _, Nat.le_refl _⟩ (Nat.le_of_ble_eq_true rfl) rfl dX11_meanOf_30 (fun H locs hH => ?_)
      refine lv_i2l (v := ((purA (bk h k (σ 12) (σ 13) (σ 14)) p (nI e)).toInt64)) hx hb dX11_meanOf_33 rfl ?_
      refine lv_lmul hx hb dX11_meanOf_34 ?_
      refine lv_ladd hx hb dX11_meanOf_35 ?_
      refine lv_lstore (lv' := [(4, .long ((sumM (bk h k (σ 12) (σ 13) (σ 14)) p e) + ((wgtA (bk h k (σ 12) (σ 13) (σ 14)) (nI e)) * ((purA (bk h k (σ 12) (σ 13) (σ 14)) p (nI e)).toInt64)))), (0, .ref (ad 0)), (1, .ref (ad 11)), (2, .int p), (3, .int (nI (2 ^ h))), (6, .int (nI e))]) hx hb dX11_meanOf_36 hl (by decide) rfl (fun ls hl => ?_)
      refine lv_iinc (v := ((nI e) + 1)) (lv' := [(6, .int ((nI e) + 1)), (4, .long ((sumM (bk h k (σ 12) (σ 13) (σ 14)) p e) + ((wgtA (bk h k (σ 12) (σ 13) (σ 14)) (nI e)) * ((purA (bk h k (σ 12) (σ 13) (σ 14)) p (nI e)).toInt64)))), (0, .ref (ad 0)), (1, .ref (ad 11)), (2, .int p), (3, .int (nI (2 ^ h)))]) hx hb dX11_meanOf_38 hl (k := 5) rfl rfl (by decide) rfl (fun ls hl => ?_)
      refine lv_goto (tgt := 11) hx hb dX11_meanOf_41 (by decide) ?_
      exact ih_e (e + 1) (show (e + 1) ≤ (2 ^ h) from (by omega)) (show (2 ^ h) - (e + 1) < (2 ^ h) - e from (by omega)) _ _ _ (hH.eq rfl) (lv_eq (lv_sub hl [2, 3, 4, 5, 1, 0] rfl) (lc_s (lc_s (lc_s (lc_s (lc_l (by rfl : ((sumM (bk h k (σ 12) (σ 13) (σ 14)) p e) + ((wgtA (bk h k (σ 12) (σ 13) (σ 14)) (nI e)) * ((purA (bk h k (σ 12) (σ 13) (σ 14)) p (nI e)).toInt64))) = (sumM (bk h k (σ 12) (σ 13) (σ 14)) p (e + 1))) (lc_i (by exact nI_1 _ : ((nI e) + 1) = (nI (e + 1))) rfl)))))))
  · exact hH.eq rfl
  · exact lv_eq (lv_sub hl [3, 4, 5, 2, 1, 0] rfl) (lc_s (lc_s (lc_s (lc_s (lc_l (by rfl : (0 : Int64) = (sumM (bk h k (σ 12) (σ 13) (σ 14)) p 0)) (lc_i (by rfl : 0 = (nI 0)) rfl))))))
set_option maxHeartbeats 4000000 in
set_option maxRecDepth 100000 in
theorem k_X11_extremeEnd_rm (l : Launch) (G : GP) (ad : Nat → Nat) (σ : Nat → Nat → Int32) (p : Int32) (sg : Int32) (h : Nat) (k : Nat) (hb3 : (σ 11 3) = nI h) (hb4 : (σ 11 4) = nI k) (hh4 : h ≤ 4) (hk6 : k ≤ 6) (hwo : WO (bk h k (σ 12) (σ 13) (σ 14)) (σ 23) (σ 24)) (hbh : BH (bk h k (σ 12) (σ 13) (σ 14))) (hpb : PB (bk h k (σ 12) (σ 13) (σ 14))) (hsg : sg = (-1)) : CT l G yX11_extremeEnd cX11_extremeEnd 9 (some .int) 4 [.ref (ad 0), .ref (ad 11), .int p, .int sg] (WC G ad σ) (some (.int (nI (wEA (bk h k (σ 12) (σ 13) (σ 14)) p)))) (WC G ad σ) := by
  refine x_meth "BetsOnBets" rfl (by decide +kernel) (by rfl) (Nat.le_of_ble_eq_true rfl) ?_
  intro pP eE sS mM args below meth cC A ls hC hr hkL hK hZ hA hH hl
  have hx := hC.1
  have hb := hC.2.1
  have hl : lv_has ls 9 [(0, .ref (ad 0)), (1, .ref (ad 11)), (2, .int p), (3, .int sg)] := hl
  have pwh := pw4 hh4
  have pwk := pw6 hk6
  have ph1 := Nat.one_le_two_pow (n := h)
  subst hsg
  skip
  refine lv_aload_n hx hb dX11_extremeEnd_0 rfl (lv_at hl 1 rfl) ?_
  refine x_callV (ws' := WC G ad σ) (As := []) (rest := []) (st' := [.int (nI (2 ^ h))]) hC hK hZ hA hl.1 hH (k_X2_ends l G (pk ad [11, 12, 13, 14]) (pk σ [11, 12, 13, 14]) h k hb3 hb4 hh4 hk6) lk_X11_139 [11, 12, 13, 14] rfl rfl rfl 11 1 rfl rfl rfl ⟨Nat.le_of_ble_eq_true rfl, Nat.le_of_ble_eq_true rfl⟩ ⟨Nat.le_refl _, Nat.le_refl _⟩ (Nat.le_of_ble_eq_true rfl) rfl dX11_extremeEnd_1 (fun H locs hH => ?_)
  refine lv_istore (lv' := [(4, .int (nI (2 ^ h))), (0, .ref (ad 0)), (1, .ref (ad 11)), (2, .int p), (3, .int (-1))]) hx hb dX11_extremeEnd_4 hl (by decide) rfl (fun ls hl => ?_)
  refine lv_iconst (v := 0) hx hb dX11_extremeEnd_6 (by decide) ?_
  refine lv_istore (lv' := [(5, .int 0), (4, .int (nI (2 ^ h))), (0, .ref (ad 0)), (1, .ref (ad 11)), (2, .int p), (3, .int (-1))]) hx hb dX11_extremeEnd_7 hl (by decide) rfl (fun ls hl => ?_)
  refine lv_iload_n hx hb dX11_extremeEnd_9 rfl (lv_at hl 5 rfl) ?_
  refine lv_aload_n hx hb dX11_extremeEnd_10 rfl (lv_at hl 2 rfl) ?_
  refine lv_aload_n hx hb dX11_extremeEnd_11 rfl (lv_at hl 3 rfl) ?_
  refine lv_iload_n hx hb dX11_extremeEnd_12 rfl (lv_at hl 4 rfl) ?_
  refine lv_iconst (v := 0) hx hb dX11_extremeEnd_13 (by decide) ?_
  refine x_callVA (ws' := WC G ad σ) (As := [.ref (ad 11), .int p, .int 0]) (rest := [.int (-1)]) (st' := [.int (purA (bk h k (σ 12) (σ 13) (σ 14)) p 0), .int (-1)]) hC hK hZ hA hl.1 hH (k_X11_purseOf_r l G ad σ p 0 h k 0 hb3 hb4 hh4 hk6 hwo hbh rfl (by omega)) lk_X11_124 rfl 0 10 rfl rfl rfl ⟨Nat.le_of_ble_eq_true rfl, Nat.le_of_ble_eq_true rfl⟩ ⟨Nat.le_refl _, Nat.le_refl _⟩ (Nat.le_of_ble_eq_true rfl) rfl dX11_extremeEnd_14 (fun H locs hH => ?_)
  refine lv_imul hx hb dX11_extremeEnd_17 ?_
  refine lv_istore (lv' := [(6, .int ((-1) * (purA (bk h k (σ 12) (σ 13) (σ 14)) p 0))), (5, .int 0), (4, .int (nI (2 ^ h))), (0, .ref (ad 0)), (1, .ref (ad 11)), (2, .int p), (3, .int (-1))]) hx hb dX11_extremeEnd_18 hl (by decide) rfl (fun ls hl => ?_)
  refine lv_iconst (v := 1) hx hb dX11_extremeEnd_20 (by decide) ?_
  refine lv_istore (lv' := [(7, .int 1), (6, .int ((-1) * (purA (bk h k (σ 12) (σ 13) (σ 14)) p 0))), (5, .int 0), (4, .int (nI (2 ^ h))), (0, .ref (ad 0)), (1, .ref (ad 11)), (2, .int p), (3, .int (-1))]) hx hb dX11_extremeEnd_21 hl (by decide) rfl (fun ls hl => ?_)
  refine x_loop (G := G) (A := A) (H0 := sS.heap) (nL := 9) (α := Nat) (fun q_ => (2 ^ h) - q_) (fun q_ => 1 ≤ q_ ∧ q_ ≤ 2 ^ h) (fun q_ => WC G ad σ) (fun q_ => [(0, .ref (ad 0)), (1, .ref (ad 11)), (2, .int p), (3, .int (-1)), (4, .int (nI (2 ^ h))), (5, .int (nI (wEnd (bk h k (σ 12) (σ 13) (σ 14)) p q_))), (6, .int ((-1) * (purA (bk h k (σ 12) (σ 13) (σ 14)) p (nI (wEnd (bk h k (σ 12) (σ 13) (σ 14)) p q_))))), (7, .int (nI q_))]) ?_ 1 (show 1 ≤ 1 ∧ 1 ≤ 2 ^ h from ⟨by omega, ph1⟩) ?_ ?_
  · rintro e hi_e ih_e H locs ls hH hl
    replace hi_e : 1 ≤ e ∧ e ≤ 2 ^ h := hi_e
    replace hH : Hx G A (WC G ad σ) sS.heap H locs := hH
    replace hl : lv_has ls 9 [(0, .ref (ad 0)), (1, .ref (ad 11)), (2, .int p), (3, .int (-1)), (4, .int (nI (2 ^ h))), (5, .int (nI (wEnd (bk h k (σ 12) (σ 13) (σ 14)) p e))), (6, .int ((-1) * (purA (bk h k (σ 12) (σ 13) (σ 14)) p (nI (wEnd (bk h k (σ 12) (σ 13) (σ 14)) p e))))), (7, .int (nI e))] := hl
    have hi_e1 := hi_e.2
    refine lv_iload hx hb dX11_extremeEnd_23 (lv_at hl 7 rfl) ?_
    refine lv_iload hx hb dX11_extremeEnd_25 (lv_at hl 4 rfl) ?_
    refine lv_icmp_ge (tgt := 63) hx hb dX11_extremeEnd_27 (by decide) (fun c27 => ?_) (fun c27 => ?_)
    · have ge_e := lp_out (n := 2 ^ h) rfl (by omega) (by omega) c27
      have eq_e : e = 2 ^ h := by omega
      refine lv_iload hx hb dX11_extremeEnd_63 (lv_at hl 5 rfl) ?_
      exact x_iret hC hr hkL hH (by rw [eq_e]; rfl) rfl dX11_extremeEnd_65
    · have lt_e := lp_in (n := 2 ^ h) rfl (by omega) (by omega) c27
      refine lv_iload_n hx hb dX11_extremeEnd_30 rfl (lv_at hl 3 rfl) ?_
      refine lv_aload_n hx hb dX11_extremeEnd_31 rfl (lv_at hl 0 rfl) ?_
      refine lv_aload_n hx hb dX11_extremeEnd_32 rfl (lv_at hl 1 rfl) ?_
      refine lv_iload_n hx hb dX11_extremeEnd_33 rfl (lv_at hl 2 rfl) ?_
      refine lv_iload hx hb dX11_extremeEnd_34 (lv_at hl 7 rfl) ?_
      refine x_callVA (ws' := WC G ad σ) (As := [.ref (ad 11), .int p, .int (nI e)]) (rest := [.int (-1)]) (st' := [.int (purA (bk h k (σ 12) (σ 13) (σ 14)) p (nI e)), .int (-1)]) hC hK hZ hA hl.1 hH (k_X11_purseOf_r l G ad σ p (nI e) h k e hb3 hb4 hh4 hk6 hwo hbh rfl (by omega)) lk_X11_124 rfl 0 10 rfl rfl rfl ⟨Nat.le_of_ble_eq_true rfl, Nat.le_of_ble_eq_true rfl⟩ ⟨Nat.le_refl _, Nat.le_refl _⟩ (Nat.le_of_ble_eq_true rfl) rfl dX11_extremeEnd_36 (fun H locs hH => ?_)
      refine lv_imul hx hb dX11_extremeEnd_39 ?_
      refine lv_istore (lv' := [(8, .int ((-1) * (purA (bk h k (σ 12) (σ 13) (σ 14)) p (nI e)))), (0, .ref (ad 0)), (1, .ref (ad 11)), (2, .int p), (3, .int (-1)), (4, .int (nI (2 ^ h))), (5, .int (nI (wEnd (bk h k (σ 12) (σ 13) (σ 14)) p e))), (6, .int ((-1) * (purA (bk h k (σ 12) (σ 13) (σ 14)) p (nI (wEnd (bk h k (σ 12) (σ 13) (σ 14)) p e))))), (7, .int (nI e))]) hx hb dX11_extremeEnd_40 hl (by decide) rfl (fun ls hl => ?_)
      refine lv_iload hx hb dX11_extremeEnd_42 (lv_at hl 0 rfl) ?_
      refine lv_iload hx hb dX11_extremeEnd_44 (lv_at hl 7 rfl) ?_
      refine lv_icmp_le (tgt := 57) hx hb dX11_extremeEnd_46 (by decide) (fun c46 => ?_) (fun c46 => ?_)
      · refine lv_iinc (v := ((nI e) + 1)) (lv' := [(7, .int ((nI e) + 1)), (8, .int ((-1) * (purA (bk h k (σ 12) (σ 13) (σ 14)) p (nI e)))), (0, .ref (ad 0)), (1, .ref (ad 11)), (2, .int p), (3, .int (-1)), (4, .int (nI (2 ^ h))), (5, .int (nI (wEnd (bk h k (σ 12) (σ 13) (σ 14)) p e))), (6, .int ((-1) * (purA (bk h k (σ 12) (σ 13) (σ 14)) p (nI (wEnd (bk h k (σ 12) (σ 13) (σ 14)) p e)))))]) hx hb dX11_extremeEnd_57 hl (k := 8) rfl rfl (by decide) rfl (fun ls hl => ?_)
        refine lv_goto (tgt := 23) hx hb dX11_extremeEnd_60 (by decide) ?_
        exact ih_e (e + 1) (show 1 ≤ (e + 1) ∧ (e + 1) ≤ 2 ^ h from ⟨by omega, by omega⟩) (show (2 ^ h) - (e + 1) < (2 ^ h) - e from (by omega)) _ _ _ (hH.eq rfl) (lv_eq (lv_sub hl [2, 3, 4, 5, 6, 7, 8, 0] rfl) (lc_s (lc_s (lc_s (lc_s (lc_s (lc_i (by first | (rw [wEnd_f (Int32.not_lt.mpr ((ng_le (hpb p e (show e < 2 ^ bH _ from lt_e)) (hpb p _ (show wEnd _ _ _ < 2 ^ bH _ from Nat.lt_trans (wEnd_lt _ _ e (by omega)) lt_e))).mp c46))]; done) | (rw [wEnd_t (Int32.not_le.mp (fun z => c46 ((ng_le (hpb p e (show e < 2 ^ bH _ from lt_e)) (hpb p _ (show wEnd _ _ _ < 2 ^ bH _ from Nat.lt_trans (wEnd_lt _ _ e (by omega)) lt_e))).mpr z)))]; done) : (nI (wEnd (bk h k (σ 12) (σ 13) (σ 14)) p e)) = (nI (wEnd (bk h k (σ 12) (σ 13) (σ 14)) p (e + 1)))) (lc_i (by first | (rw [wEnd_f (Int32.not_lt.mpr ((ng_le (hpb p e (show e < 2 ^ bH _ from lt_e)) (hpb p _ (show wEnd _ _ _ < 2 ^ bH _ from Nat.lt_trans (wEnd_lt _ _ e (by omega)) lt_e))).mp c46))]; done) | (rw [wEnd_t (Int32.not_le.mp (fun z => c46 ((ng_le (hpb p e (show e < 2 ^ bH _ from lt_e)) (hpb p _ (show wEnd _ _ _ < 2 ^ bH _ from Nat.lt_trans (wEnd_lt _ _ e (by omega)) lt_e))).mpr z)))]; done) : ((-1) * (purA (bk h k (σ 12) (σ 13) (σ 14)) p (nI (wEnd (bk h k (σ 12) (σ 13) (σ 14)) p e)))) = ((-1) * (purA (bk h k (σ 12) (σ 13) (σ 14)) p (nI (wEnd (bk h k (σ 12) (σ 13) (σ 14)) p (e + 1)))))) (lc_i (by exact nI_1 _ : ((nI e) + 1) = (nI (e + 1))) rfl)))))))))
      · refine lv_iload hx hb dX11_extremeEnd_49 (lv_at hl 0 rfl) ?_
        refine lv_istore (lv' := [(6, .int ((-1) * (purA (bk h k (σ 12) (σ 13) (σ 14)) p (nI e)))), (8, .int ((-1) * (purA (bk h k (σ 12) (σ 13) (σ 14)) p (nI e)))), (0, .ref (ad 0)), (1, .ref (ad 11)), (2, .int p), (3, .int (-1)), (4, .int (nI (2 ^ h))), (5, .int (nI (wEnd (bk h k (σ 12) (σ 13) (σ 14)) p e))), (7, .int (nI e))]) hx hb dX11_extremeEnd_51 hl (by decide) rfl (fun ls hl => ?_)
        refine lv_iload hx hb dX11_extremeEnd_53 (lv_at hl 8 rfl) ?_
        refine lv_istore (lv' := [(5, .int (nI e)), (6, .int ((-1) * (purA (bk h k (σ 12) (σ 13) (σ 14)) p (nI e)))), (8, .int ((-1) * (purA (bk h k (σ 12) (σ 13) (σ 14)) p (nI e)))), (0, .ref (ad 0)), (1, .ref (ad 11)), (2, .int p), (3, .int (-1)), (4, .int (nI (2 ^ h))), (7, .int (nI e))]) hx hb dX11_extremeEnd_55 hl (by decide) rfl (fun ls hl => ?_)
        refine lv_iinc (v := ((nI e) + 1)) (lv' := [(7, .int ((nI e) + 1)), (5, .int (nI e)), (6, .int ((-1) * (purA (bk h k (σ 12) (σ 13) (σ 14)) p (nI e)))), (8, .int ((-1) * (purA (bk h k (σ 12) (σ 13) (σ 14)) p (nI e)))), (0, .ref (ad 0)), (1, .ref (ad 11)), (2, .int p), (3, .int (-1)), (4, .int (nI (2 ^ h)))]) hx hb dX11_extremeEnd_57 hl (k := 8) rfl rfl (by decide) rfl (fun ls hl => ?_)
        refine lv_goto (tgt := 23) hx hb dX11_extremeEnd_60 (by decide) ?_
        exact ih_e (e + 1) (show 1 ≤ (e + 1) ∧ (e + 1) ≤ 2 ^ h from ⟨by omega, by omega⟩) (show (2 ^ h) - (e + 1) < (2 ^ h) - e from (by omega)) _ _ _ (hH.eq rfl) (lv_eq (lv_sub hl [4, 5, 6, 7, 8, 1, 2, 0] rfl) (lc_s (lc_s (lc_s (lc_s (lc_s (lc_i (by first | (rw [wEnd_f (Int32.not_lt.mpr ((ng_le (hpb p e (show e < 2 ^ bH _ from lt_e)) (hpb p _ (show wEnd _ _ _ < 2 ^ bH _ from Nat.lt_trans (wEnd_lt _ _ e (by omega)) lt_e))).mp c46))]; done) | (rw [wEnd_t (Int32.not_le.mp (fun z => c46 ((ng_le (hpb p e (show e < 2 ^ bH _ from lt_e)) (hpb p _ (show wEnd _ _ _ < 2 ^ bH _ from Nat.lt_trans (wEnd_lt _ _ e (by omega)) lt_e))).mpr z)))]; done) : (nI e) = (nI (wEnd (bk h k (σ 12) (σ 13) (σ 14)) p (e + 1)))) (lc_i (by first | (rw [wEnd_f (Int32.not_lt.mpr ((ng_le (hpb p e (show e < 2 ^ bH _ from lt_e)) (hpb p _ (show wEnd _ _ _ < 2 ^ bH _ from Nat.lt_trans (wEnd_lt _ _ e (by omega)) lt_e))).mp c46))]; done) | (rw [wEnd_t (Int32.not_le.mp (fun z => c46 ((ng_le (hpb p e (show e < 2 ^ bH _ from lt_e)) (hpb p _ (show wEnd _ _ _ < 2 ^ bH _ from Nat.lt_trans (wEnd_lt _ _ e (by omega)) lt_e))).mpr z)))]; done) : ((-1) * (purA (bk h k (σ 12) (σ 13) (σ 14)) p (nI e))) = ((-1) * (purA (bk h k (σ 12) (σ 13) (σ 14)) p (nI (wEnd (bk h k (σ 12) (σ 13) (σ 14)) p (e + 1)))))) (lc_i (by exact nI_1 _ : ((nI e) + 1) = (nI (e + 1))) rfl)))))))))
  · exact hH.eq rfl
  · exact lv_eq (lv_sub hl [4, 5, 6, 7, 3, 2, 1, 0] rfl) (lc_s (lc_s (lc_s (lc_s (lc_s (lc_i (by rw [wEnd_1]; rfl : 0 = (nI (wEnd (bk h k (σ 12) (σ 13) (σ 14)) p 1))) (lc_i (by rw [wEnd_1]; rfl : ((-1) * (purA (bk h k (σ 12) (σ 13) (σ 14)) p 0)) = ((-1) * (purA (bk h k (σ 12) (σ 13) (σ 14)) p (nI (wEnd (bk h k (σ 12) (σ 13) (σ 14)) p 1))))) (lc_i (by rfl : 1 = (nI 1)) rfl))))))))
set_option maxHeartbeats 4000000 in
set_option maxRecDepth 100000 in
theorem k_X11_extremeEnd_rp (l : Launch) (G : GP) (ad : Nat → Nat) (σ : Nat → Nat → Int32) (p : Int32) (sg : Int32) (h : Nat) (k : Nat) (hb3 : (σ 11 3) = nI h) (hb4 : (σ 11 4) = nI k) (hh4 : h ≤ 4) (hk6 : k ≤ 6) (hwo : WO (bk h k (σ 12) (σ 13) (σ 14)) (σ 23) (σ 24)) (hbh : BH (bk h k (σ 12) (σ 13) (σ 14))) (hpb : PB (bk h k (σ 12) (σ 13) (σ 14))) (hsg : sg = 1) : CT l G yX11_extremeEnd cX11_extremeEnd 9 (some .int) 4 [.ref (ad 0), .ref (ad 11), .int p, .int sg] (WC G ad σ) (some (.int (nI (bEA (bk h k (σ 12) (σ 13) (σ 14)) p)))) (WC G ad σ) := by
  refine x_meth "BetsOnBets" rfl (by decide +kernel) (by rfl) (Nat.le_of_ble_eq_true rfl) ?_
  intro pP eE sS mM args below meth cC A ls hC hr hkL hK hZ hA hH hl
  have hx := hC.1
  have hb := hC.2.1
  have hl : lv_has ls 9 [(0, .ref (ad 0)), (1, .ref (ad 11)), (2, .int p), (3, .int sg)] := hl
  have pwh := pw4 hh4
  have pwk := pw6 hk6
  have ph1 := Nat.one_le_two_pow (n := h)
  subst hsg
  skip
  refine lv_aload_n hx hb dX11_extremeEnd_0 rfl (lv_at hl 1 rfl) ?_
  refine x_callV (ws' := WC G ad σ) (As := []) (rest := []) (st' := [.int (nI (2 ^ h))]) hC hK hZ hA hl.1 hH (k_X2_ends l G (pk ad [11, 12, 13, 14]) (pk σ [11, 12, 13, 14]) h k hb3 hb4 hh4 hk6) lk_X11_139 [11, 12, 13, 14] rfl rfl rfl 11 1 rfl rfl rfl ⟨Nat.le_of_ble_eq_true rfl, Nat.le_of_ble_eq_true rfl⟩ ⟨Nat.le_refl _, Nat.le_refl _⟩ (Nat.le_of_ble_eq_true rfl) rfl dX11_extremeEnd_1 (fun H locs hH => ?_)
  refine lv_istore (lv' := [(4, .int (nI (2 ^ h))), (0, .ref (ad 0)), (1, .ref (ad 11)), (2, .int p), (3, .int 1)]) hx hb dX11_extremeEnd_4 hl (by decide) rfl (fun ls hl => ?_)
  refine lv_iconst (v := 0) hx hb dX11_extremeEnd_6 (by decide) ?_
  refine lv_istore (lv' := [(5, .int 0), (4, .int (nI (2 ^ h))), (0, .ref (ad 0)), (1, .ref (ad 11)), (2, .int p), (3, .int 1)]) hx hb dX11_extremeEnd_7 hl (by decide) rfl (fun ls hl => ?_)
  refine lv_iload_n hx hb dX11_extremeEnd_9 rfl (lv_at hl 5 rfl) ?_
  refine lv_aload_n hx hb dX11_extremeEnd_10 rfl (lv_at hl 2 rfl) ?_
  refine lv_aload_n hx hb dX11_extremeEnd_11 rfl (lv_at hl 3 rfl) ?_
  refine lv_iload_n hx hb dX11_extremeEnd_12 rfl (lv_at hl 4 rfl) ?_
  refine lv_iconst (v := 0) hx hb dX11_extremeEnd_13 (by decide) ?_
  refine x_callVA (ws' := WC G ad σ) (As := [.ref (ad 11), .int p, .int 0]) (rest := [.int 1]) (st' := [.int (purA (bk h k (σ 12) (σ 13) (σ 14)) p 0), .int 1]) hC hK hZ hA hl.1 hH (k_X11_purseOf_r l G ad σ p 0 h k 0 hb3 hb4 hh4 hk6 hwo hbh rfl (by omega)) lk_X11_124 rfl 0 10 rfl rfl rfl ⟨Nat.le_of_ble_eq_true rfl, Nat.le_of_ble_eq_true rfl⟩ ⟨Nat.le_refl _, Nat.le_refl _⟩ (Nat.le_of_ble_eq_true rfl) rfl dX11_extremeEnd_14 (fun H locs hH => ?_)
  refine lv_imul hx hb dX11_extremeEnd_17 ?_
  refine lv_istore (lv' := [(6, .int (1 * (purA (bk h k (σ 12) (σ 13) (σ 14)) p 0))), (5, .int 0), (4, .int (nI (2 ^ h))), (0, .ref (ad 0)), (1, .ref (ad 11)), (2, .int p), (3, .int 1)]) hx hb dX11_extremeEnd_18 hl (by decide) rfl (fun ls hl => ?_)
  refine lv_iconst (v := 1) hx hb dX11_extremeEnd_20 (by decide) ?_
  refine lv_istore (lv' := [(7, .int 1), (6, .int (1 * (purA (bk h k (σ 12) (σ 13) (σ 14)) p 0))), (5, .int 0), (4, .int (nI (2 ^ h))), (0, .ref (ad 0)), (1, .ref (ad 11)), (2, .int p), (3, .int 1)]) hx hb dX11_extremeEnd_21 hl (by decide) rfl (fun ls hl => ?_)
  refine x_loop (G := G) (A := A) (H0 := sS.heap) (nL := 9) (α := Nat) (fun q_ => (2 ^ h) - q_) (fun q_ => 1 ≤ q_ ∧ q_ ≤ 2 ^ h) (fun q_ => WC G ad σ) (fun q_ => [(0, .ref (ad 0)), (1, .ref (ad 11)), (2, .int p), (3, .int 1), (4, .int (nI (2 ^ h))), (5, .int (nI (bEnd (bk h k (σ 12) (σ 13) (σ 14)) p q_))), (6, .int (1 * (purA (bk h k (σ 12) (σ 13) (σ 14)) p (nI (bEnd (bk h k (σ 12) (σ 13) (σ 14)) p q_))))), (7, .int (nI q_))]) ?_ 1 (show 1 ≤ 1 ∧ 1 ≤ 2 ^ h from ⟨by omega, ph1⟩) ?_ ?_
  · rintro e hi_e ih_e H locs ls hH hl
    replace hi_e : 1 ≤ e ∧ e ≤ 2 ^ h := hi_e
    replace hH : Hx G A (WC G ad σ) sS.heap H locs := hH
    replace hl : lv_has ls 9 [(0, .ref (ad 0)), (1, .ref (ad 11)), (2, .int p), (3, .int 1), (4, .int (nI (2 ^ h))), (5, .int (nI (bEnd (bk h k (σ 12) (σ 13) (σ 14)) p e))), (6, .int (1 * (purA (bk h k (σ 12) (σ 13) (σ 14)) p (nI (bEnd (bk h k (σ 12) (σ 13) (σ 14)) p e))))), (7, .int (nI e))] := hl
    have hi_e1 := hi_e.2
    refine lv_iload hx hb dX11_extremeEnd_23 (lv_at hl 7 rfl) ?_
    refine lv_iload hx hb dX11_extremeEnd_25 (lv_at hl 4 rfl) ?_
    refine lv_icmp_ge (tgt := 63) hx hb dX11_extremeEnd_27 (by decide) (fun c27 => ?_) (fun c27 => ?_)
    · have ge_e := lp_out (n := 2 ^ h) rfl (by omega) (by omega) c27
      have eq_e : e = 2 ^ h := by omega
      refine lv_iload hx hb dX11_extremeEnd_63 (lv_at hl 5 rfl) ?_
      exact x_iret hC hr hkL hH (by rw [eq_e]; rfl) rfl dX11_extremeEnd_65
    · have lt_e := lp_in (n := 2 ^ h) rfl (by omega) (by omega) c27
      refine lv_iload_n hx hb dX11_extremeEnd_30 rfl (lv_at hl 3 rfl) ?_
      refine lv_aload_n hx hb dX11_extremeEnd_31 rfl (lv_at hl 0 rfl) ?_
      refine lv_aload_n hx hb dX11_extremeEnd_32 rfl (lv_at hl 1 rfl) ?_
      refine lv_iload_n hx hb dX11_extremeEnd_33 rfl (lv_at hl 2 rfl) ?_
      refine lv_iload hx hb dX11_extremeEnd_34 (lv_at hl 7 rfl) ?_
      refine x_callVA (ws' := WC G ad σ) (As := [.ref (ad 11), .int p, .int (nI e)]) (rest := [.int 1]) (st' := [.int (purA (bk h k (σ 12) (σ 13) (σ 14)) p (nI e)), .int 1]) hC hK hZ hA hl.1 hH (k_X11_purseOf_r l G ad σ p (nI e) h k e hb3 hb4 hh4 hk6 hwo hbh rfl (by omega)) lk_X11_124 rfl 0 10 rfl rfl rfl ⟨Nat.le_of_ble_eq_true rfl, Nat.le_of_ble_eq_true rfl⟩ ⟨Nat.le_refl _, Nat.le_refl _⟩ (Nat.le_of_ble_eq_true rfl) rfl dX11_extremeEnd_36 (fun H locs hH => ?_)
      refine lv_imul hx hb dX11_extremeEnd_39 ?_
      refine lv_istore (lv' := [(8, .int (1 * (purA (bk h k (σ 12) (σ 13) (σ 14)) p (nI e)))), (0, .ref (ad 0)), (1, .ref (ad 11)), (2, .int p), (3, .int 1), (4, .int (nI (2 ^ h))), (5, .int (nI (bEnd (bk h k (σ 12) (σ 13) (σ 14)) p e))), (6, .int (1 * (purA (bk h k (σ 12) (σ 13) (σ 14)) p (nI (bEnd (bk h k (σ 12) (σ 13) (σ 14)) p e))))), (7, .int (nI e))]) hx hb dX11_extremeEnd_40 hl (by decide) rfl (fun ls hl => ?_)
      refine lv_iload hx hb dX11_extremeEnd_42 (lv_at hl 0 rfl) ?_
      refine lv_iload hx hb dX11_extremeEnd_44 (lv_at hl 7 rfl) ?_
      refine lv_icmp_le (tgt := 57) hx hb dX11_extremeEnd_46 (by decide) (fun c46 => ?_) (fun c46 => ?_)
      · refine lv_iinc (v := ((nI e) + 1)) (lv' := [(7, .int ((nI e) + 1)), (8, .int (1 * (purA (bk h k (σ 12) (σ 13) (σ 14)) p (nI e)))), (0, .ref (ad 0)), (1, .ref (ad 11)), (2, .int p), (3, .int 1), (4, .int (nI (2 ^ h))), (5, .int (nI (bEnd (bk h k (σ 12) (σ 13) (σ 14)) p e))), (6, .int (1 * (purA (bk h k (σ 12) (σ 13) (σ 14)) p (nI (bEnd (bk h k (σ 12) (σ 13) (σ 14)) p e)))))]) hx hb dX11_extremeEnd_57 hl (k := 8) rfl rfl (by decide) rfl (fun ls hl => ?_)
        refine lv_goto (tgt := 23) hx hb dX11_extremeEnd_60 (by decide) ?_
        exact ih_e (e + 1) (show 1 ≤ (e + 1) ∧ (e + 1) ≤ 2 ^ h from ⟨by omega, by omega⟩) (show (2 ^ h) - (e + 1) < (2 ^ h) - e from (by omega)) _ _ _ (hH.eq rfl) (lv_eq (lv_sub hl [2, 3, 4, 5, 6, 7, 8, 0] rfl) (lc_s (lc_s (lc_s (lc_s (lc_s (lc_i (by first | (rw [bEnd_f (Int32.not_lt.mpr (ps_le.mp c46))]; done) | (rw [bEnd_t (Int32.not_le.mp (fun z => c46 (ps_le.mpr z)))]; done) : (nI (bEnd (bk h k (σ 12) (σ 13) (σ 14)) p e)) = (nI (bEnd (bk h k (σ 12) (σ 13) (σ 14)) p (e + 1)))) (lc_i (by first | (rw [bEnd_f (Int32.not_lt.mpr (ps_le.mp c46))]; done) | (rw [bEnd_t (Int32.not_le.mp (fun z => c46 (ps_le.mpr z)))]; done) : (1 * (purA (bk h k (σ 12) (σ 13) (σ 14)) p (nI (bEnd (bk h k (σ 12) (σ 13) (σ 14)) p e)))) = (1 * (purA (bk h k (σ 12) (σ 13) (σ 14)) p (nI (bEnd (bk h k (σ 12) (σ 13) (σ 14)) p (e + 1)))))) (lc_i (by exact nI_1 _ : ((nI e) + 1) = (nI (e + 1))) rfl)))))))))
      · refine lv_iload hx hb dX11_extremeEnd_49 (lv_at hl 0 rfl) ?_
        refine lv_istore (lv' := [(6, .int (1 * (purA (bk h k (σ 12) (σ 13) (σ 14)) p (nI e)))), (8, .int (1 * (purA (bk h k (σ 12) (σ 13) (σ 14)) p (nI e)))), (0, .ref (ad 0)), (1, .ref (ad 11)), (2, .int p), (3, .int 1), (4, .int (nI (2 ^ h))), (5, .int (nI (bEnd (bk h k (σ 12) (σ 13) (σ 14)) p e))), (7, .int (nI e))]) hx hb dX11_extremeEnd_51 hl (by decide) rfl (fun ls hl => ?_)
        refine lv_iload hx hb dX11_extremeEnd_53 (lv_at hl 8 rfl) ?_
        refine lv_istore (lv' := [(5, .int (nI e)), (6, .int (1 * (purA (bk h k (σ 12) (σ 13) (σ 14)) p (nI e)))), (8, .int (1 * (purA (bk h k (σ 12) (σ 13) (σ 14)) p (nI e)))), (0, .ref (ad 0)), (1, .ref (ad 11)), (2, .int p), (3, .int 1), (4, .int (nI (2 ^ h))), (7, .int (nI e))]) hx hb dX11_extremeEnd_55 hl (by decide) rfl (fun ls hl => ?_)
        refine lv_iinc (v := ((nI e) + 1)) (lv' := [(7, .int ((nI e) + 1)), (5, .int (nI e)), (6, .int (1 * (purA (bk h k (σ 12) (σ 13) (σ 14)) p (nI e)))), (8, .int (1 * (purA (bk h k (σ 12) (σ 13) (σ 14)) p (nI e)))), (0, .ref (ad 0)), (1, .ref (ad 11)), (2, .int p), (3, .int 1), (4, .int (nI (2 ^ h)))]) hx hb dX11_extremeEnd_57 hl (k := 8) rfl rfl (by decide) rfl (fun ls hl => ?_)
        refine lv_goto (tgt := 23) hx hb dX11_extremeEnd_60 (by decide) ?_
        exact ih_e (e + 1) (show 1 ≤ (e + 1) ∧ (e + 1) ≤ 2 ^ h from ⟨by omega, by omega⟩) (show (2 ^ h) - (e + 1) < (2 ^ h) - e from (by omega)) _ _ _ (hH.eq rfl) (lv_eq (lv_sub hl [4, 5, 6, 7, 8, 1, 2, 0] rfl) (lc_s (lc_s (lc_s (lc_s (lc_s (lc_i (by first | (rw [bEnd_f (Int32.not_lt.mpr (ps_le.mp c46))]; done) | (rw [bEnd_t (Int32.not_le.mp (fun z => c46 (ps_le.mpr z)))]; done) : (nI e) = (nI (bEnd (bk h k (σ 12) (σ 13) (σ 14)) p (e + 1)))) (lc_i (by first | (rw [bEnd_f (Int32.not_lt.mpr (ps_le.mp c46))]; done) | (rw [bEnd_t (Int32.not_le.mp (fun z => c46 (ps_le.mpr z)))]; done) : (1 * (purA (bk h k (σ 12) (σ 13) (σ 14)) p (nI e))) = (1 * (purA (bk h k (σ 12) (σ 13) (σ 14)) p (nI (bEnd (bk h k (σ 12) (σ 13) (σ 14)) p (e + 1)))))) (lc_i (by exact nI_1 _ : ((nI e) + 1) = (nI (e + 1))) rfl)))))))))
  · exact hH.eq rfl
  · exact lv_eq (lv_sub hl [4, 5, 6, 7, 3, 2, 1, 0] rfl) (lc_s (lc_s (lc_s (lc_s (lc_s (lc_i (by rw [bEnd_1]; rfl : 0 = (nI (bEnd (bk h k (σ 12) (σ 13) (σ 14)) p 1))) (lc_i (by rw [bEnd_1]; rfl : (1 * (purA (bk h k (σ 12) (σ 13) (σ 14)) p 0)) = (1 * (purA (bk h k (σ 12) (σ 13) (σ 14)) p (nI (bEnd (bk h k (σ 12) (σ 13) (σ 14)) p 1))))) (lc_i (by rfl : 1 = (nI 1)) rfl))))))))
set_option maxHeartbeats 4000000 in
set_option maxRecDepth 100000 in
theorem k_X11_worstOf_r (l : Launch) (G : GP) (ad : Nat → Nat) (σ : Nat → Nat → Int32) (p : Int32) (h : Nat) (k : Nat) (hb3 : (σ 11 3) = nI h) (hb4 : (σ 11 4) = nI k) (hh4 : h ≤ 4) (hk6 : k ≤ 6) (hwo : WO (bk h k (σ 12) (σ 13) (σ 14)) (σ 23) (σ 24)) (hbh : BH (bk h k (σ 12) (σ 13) (σ 14))) (hpb : PB (bk h k (σ 12) (σ 13) (σ 14))) : CT l G yX11_worstOf cX11_worstOf 3 (some .int) 5 [.ref (ad 0), .ref (ad 11), .int p] (WC G ad σ) (some (.int (worV (bk h k (σ 12) (σ 13) (σ 14)) p))) (WC G ad σ) := by
  refine x_meth "BetsOnBets" rfl (by decide +kernel) (by rfl) (Nat.le_of_ble_eq_true rfl) ?_
  intro pP eE sS mM args below meth cC A ls hC hr hkL hK hZ hA hH hl
  have hx := hC.1
  have hb := hC.2.1
  have hl : lv_has ls 3 [(0, .ref (ad 0)), (1, .ref (ad 11)), (2, .int p)] := hl
  have pwh := pw4 hh4
  have pwk := pw6 hk6
  have ph1 := Nat.one_le_two_pow (n := h)
  refine lv_aload_n hx hb dX11_worstOf_0 rfl (lv_at hl 0 rfl) ?_
  refine lv_aload_n hx hb dX11_worstOf_1 rfl (lv_at hl 1 rfl) ?_
  refine lv_iload_n hx hb dX11_worstOf_2 rfl (lv_at hl 2 rfl) ?_
  refine lv_aload_n hx hb dX11_worstOf_3 rfl (lv_at hl 0 rfl) ?_
  refine lv_aload_n hx hb dX11_worstOf_4 rfl (lv_at hl 1 rfl) ?_
  refine lv_iload_n hx hb dX11_worstOf_5 rfl (lv_at hl 2 rfl) ?_
  refine lv_iconst (v := (-1)) hx hb dX11_worstOf_6 (by decide) ?_
  refine x_callVA (ws' := WC G ad σ) (As := [.ref (ad 11), .int p, .int (-1)]) (rest := [.int p, .ref (ad 11), .ref (ad 0)]) (st' := [.int (nI (wEA (bk h k (σ 12) (σ 13) (σ 14)) p)), .int p, .ref (ad 11), .ref (ad 0)]) hC hK hZ hA hl.1 hH (k_X11_extremeEnd_rm l G ad σ p (-1) h k hb3 hb4 hh4 hk6 hwo hbh hpb rfl) lk_X11_136 rfl 0 10 rfl rfl rfl ⟨Nat.le_of_ble_eq_true rfl, Nat.le_of_ble_eq_true rfl⟩ ⟨Nat.le_refl _, Nat.le_refl _⟩ (Nat.le_of_ble_eq_true rfl) rfl dX11_worstOf_7 (fun H locs hH => ?_)
  refine x_callVA (ws' := WC G ad σ) (As := [.ref (ad 11), .int p, .int (nI (wEA (bk h k (σ 12) (σ 13) (σ 14)) p))]) (rest := []) (st' := [.int (purA (bk h k (σ 12) (σ 13) (σ 14)) p (nI (wEA (bk h k (σ 12) (σ 13) (σ 14)) p)))]) hC hK hZ hA hl.1 hH (k_X11_purseOf_r l G ad σ p (nI (wEA (bk h k (σ 12) (σ 13) (σ 14)) p)) h k (wEA (bk h k (σ 12) (σ 13) (σ 14)) p) hb3 hb4 hh4 hk6 hwo hbh rfl (show wEnd _ _ (2 ^ h) < 2 ^ h from wEnd_lt _ _ _ (by omega))) lk_X11_124 rfl 0 10 rfl rfl rfl ⟨Nat.le_of_ble_eq_true rfl, Nat.le_of_ble_eq_true rfl⟩ ⟨Nat.le_refl _, Nat.le_refl _⟩ (Nat.le_of_ble_eq_true rfl) rfl dX11_worstOf_10 (fun H locs hH => ?_)
  exact x_iret hC hr hkL hH (by first | rfl | simp) rfl dX11_worstOf_13
