/-! the reference: small methods -/
def withinF (v a b : Int32) : Int32 := if v < a then -4 else if b < v then -6 else 0
theorem withinF_cases (v a b : Int32) : (v < a ∧ withinF v a b = -4) ∨ (¬ v < a ∧ b < v ∧ withinF v a b = -6) ∨ (¬ v < a ∧ ¬ b < v ∧ withinF v a b = 0) := by
  unfold withinF
  by_cases h : v < a
  · exact Or.inl ⟨h, if_pos h⟩
  · by_cases h2 : b < v
    · exact Or.inr (Or.inl ⟨h, h2, by rw [if_neg h, if_pos h2]⟩)
    · exact Or.inr (Or.inr ⟨h, h2, by rw [if_neg h, if_neg h2]⟩)
def cpyF (f g : Nat → Int32) (n : Nat) : Nat → Int32 := fun j => if j < n then f j else g j
theorem cpyF_0 (f g : Nat → Int32) : cpyF f g 0 = g := by funext j; simp [cpyF]
theorem cpyF_s (f g : Nat → Int32) (n : Nat) : upd (cpyF f g n) n (f n) = cpyF f g (n + 1) := by
  funext j
  unfold upd cpyF
  by_cases h : j = n
  · subst h; simp
  · by_cases h2 : j < n
    · rw [if_neg h, if_pos h2, if_pos (by omega)]
    · rw [if_neg h, if_neg h2, if_neg (by omega)]
theorem cpyF_in (f g : Nat → Int32) {n j : Nat} (h : j < n) : cpyF f g n j = f j := if_pos h
def popc : Nat → Nat → Nat
  | 0, _ => 0
  | k + 1, v => v % 2 + popc k (v / 2)
theorem nI_gt0 {v : Nat} (h : v < 2 ^ 31) : (0 : Int32) < nI v ↔ 0 < v := nI_ltI (a := 0) (by omega) h
/-- an index within a number of things -/
theorem inb_of {v : Int32} {k : Nat} (hk : k < 2 ^ 31) (h : 0 ≤ v ∧ v < nI k) : ∃ j, j < k ∧ v = nI j := by
  obtain ⟨h1, h2⟩ := h
  obtain ⟨j, hj, rfl⟩ := nI_of (x := v) (by rw [Int32.not_lt]; exact h1)
  exact ⟨j, (nI_ltI hj hk).mp h2, rfl⟩
theorem lp_in {i n : Nat} {b : Int32} (hb : b = nI n) (hn : n < 2 ^ 31) (hi : i < 2 ^ 31) (h : ¬ b ≤ nI i) : i < n := by
  subst hb
  exact Nat.not_le.mp (fun q => h ((nI_leI hn hi).mpr q))
theorem lp_out {i n : Nat} {b : Int32} (hb : b = nI n) (hn : n < 2 ^ 31) (hi : i < 2 ^ 31) (h : b ≤ nI i) : n ≤ i := by
  subst hb
  exact (nI_leI hn hi).mp h
theorem popc_0 : ∀ k, popc k 0 = 0 := by
  intro k
  induction k with
  | zero => rfl
  | succ k ih => simp [popc, ih]
theorem pow_pr {t : Nat} (h : t ≠ 0) : 2 ^ t = 2 * 2 ^ (t - 1) := by
  obtain ⟨k, rfl⟩ : ∃ k, t = k + 1 := ⟨t - 1, by omega⟩
  rw [Nat.pow_succ, Nat.add_sub_cancel, Nat.mul_comm]
theorem popc_pr {t v : Nat} (h : t ≠ 0) : popc t v = v % 2 + popc (t - 1) (v / 2) := by
  obtain ⟨k, rfl⟩ : ∃ k, t = k + 1 := ⟨t - 1, by omega⟩
  rfl
def rfz (ρ : Nat → Int32) (c : Nat) : Nat → Int32 := if c = 0 then ρ else upd ρ c (ρ c + 1)
theorem nI_and1 {v : Nat} (h : v < 2 ^ 31) : nI v &&& 1 = nI (v % 2) := pk_andN (by omega) 1 rfl
theorem nI_shr1 {v : Nat} (h : v < 2 ^ 31) : nI v >>> ((1 : Int32) &&& 31) = nI (v / 2) := pk_shrN h _ 1 (by decide)
set_option maxHeartbeats 4000000 in
set_option maxRecDepth 100000 in
theorem k_X12_isIn (l : Launch) (G : GP) (ad : Nat → Nat) (σ : Nat → Nat → Int32) (v : Int32) (n : Int32) : CT l G yX12_isIn cX12_isIn 2 (some .boolean) 0 [.int v, .int n] (WE G ad σ) (some (.int (bI (0 ≤ v ∧ v < n)))) (WE G ad σ) := by
  refine x_meth "BetsOnBetsModel" rfl (by decide +kernel) (by rfl) (Nat.le_of_ble_eq_true rfl) ?_
  intro pP eE sS mM args below meth cC A ls hC hr hkL hK hZ hA hH hl
  have hx := hC.1
  have hb := hC.2.1
  have hl : lv_has ls 2 [(0, .int v), (1, .int n)] := hl
  refine lv_iload_n hx hb dX12_isIn_0 rfl (lv_at hl 0 rfl) ?_
  refine lv_if_lt (tgt := 13) hx hb dX12_isIn_1 (by decide) (fun c1 => ?_) (fun c1 => ?_)
  · refine lv_iconst (v := 0) hx hb dX12_isIn_13 (by decide) ?_
    exact x_zret hC hr hkL hH nar_bI (bI_f (by first | exact fun h => absurd h.1 (Int32.not_le.mpr c1) | exact fun h => absurd h.2 (Int32.not_lt.mpr c6))) rfl dX12_isIn_14
  · refine lv_iload_n hx hb dX12_isIn_4 rfl (lv_at hl 0 rfl) ?_
    refine lv_iload_n hx hb dX12_isIn_5 rfl (lv_at hl 1 rfl) ?_
    refine lv_icmp_ge (tgt := 13) hx hb dX12_isIn_6 (by decide) (fun c6 => ?_) (fun c6 => ?_)
    · refine lv_iconst (v := 0) hx hb dX12_isIn_13 (by decide) ?_
      exact x_zret hC hr hkL hH nar_bI (bI_f (by first | exact fun h => absurd h.1 (Int32.not_le.mpr c1) | exact fun h => absurd h.2 (Int32.not_lt.mpr c6))) rfl dX12_isIn_14
    · refine lv_iconst (v := 1) hx hb dX12_isIn_9 (by decide) ?_
      refine lv_goto (tgt := 14) hx hb dX12_isIn_10 (by decide) ?_
      exact x_zret hC hr hkL hH nar_bI (bI_t (by exact ⟨Int32.not_lt.mp c1, Int32.not_le.mp c6⟩)) rfl dX12_isIn_14
set_option maxHeartbeats 4000000 in
set_option maxRecDepth 100000 in
theorem k_X12_within (l : Launch) (G : GP) (ad : Nat → Nat) (σ : Nat → Nat → Int32) (v : Int32) (a : Int32) (b : Int32) : CT l G yX12_within cX12_within 3 (some .int) 0 [.int v, .int a, .int b] (WE G ad σ) (some (.int (withinF v a b))) (WE G ad σ) := by
  refine x_meth "BetsOnBetsModel" rfl (by decide +kernel) (by rfl) (Nat.le_of_ble_eq_true rfl) ?_
  intro pP eE sS mM args below meth cC A ls hC hr hkL hK hZ hA hH hl
  have hx := hC.1
  have hb := hC.2.1
  have hl : lv_has ls 3 [(0, .int v), (1, .int a), (2, .int b)] := hl
  refine lv_iload_n hx hb dX12_within_0 rfl (lv_at hl 0 rfl) ?_
  refine lv_iload_n hx hb dX12_within_1 rfl (lv_at hl 1 rfl) ?_
  refine lv_icmp_ge (tgt := 10) hx hb dX12_within_2 (by decide) (fun c2 => ?_) (fun c2 => ?_)
  · refine lv_iload_n hx hb dX12_within_10 rfl (lv_at hl 0 rfl) ?_
    refine lv_iload_n hx hb dX12_within_11 rfl (lv_at hl 2 rfl) ?_
    refine lv_icmp_le (tgt := 20) hx hb dX12_within_12 (by decide) (fun c12 => ?_) (fun c12 => ?_)
    · refine lv_iconst (v := 0) hx hb dX12_within_20 (by decide) ?_
      exact x_iret hC hr hkL hH (by first | (rw [withinF, if_pos (Int32.not_le.mp c2)]; done) | (rw [withinF, if_neg (Int32.not_lt.mpr c2), if_pos (Int32.not_le.mp c12)]; done) | (rw [withinF, if_neg (Int32.not_lt.mpr c2), if_neg (Int32.not_lt.mpr c12)]; done)) rfl dX12_within_21
    · refine lv_bipush (v := (-6)) hx hb dX12_within_15 (by decide) ?_
      refine lv_goto (tgt := 21) hx hb dX12_within_17 (by decide) ?_
      exact x_iret hC hr hkL hH (by first | (rw [withinF, if_pos (Int32.not_le.mp c2)]; done) | (rw [withinF, if_neg (Int32.not_lt.mpr c2), if_pos (Int32.not_le.mp c12)]; done) | (rw [withinF, if_neg (Int32.not_lt.mpr c2), if_neg (Int32.not_lt.mpr c12)]; done)) rfl dX12_within_21
  · refine lv_bipush (v := (-4)) hx hb dX12_within_5 (by decide) ?_
    refine lv_goto (tgt := 21) hx hb dX12_within_7 (by decide) ?_
    exact x_iret hC hr hkL hH (by first | (rw [withinF, if_pos (Int32.not_le.mp c2)]; done) | (rw [withinF, if_neg (Int32.not_lt.mpr c2), if_pos (Int32.not_le.mp c12)]; done) | (rw [withinF, if_neg (Int32.not_lt.mpr c2), if_neg (Int32.not_lt.mpr c12)]; done)) rfl dX12_within_21
set_option maxHeartbeats 4000000 in
set_option maxRecDepth 100000 in
theorem k_X12_isPerson (l : Launch) (G : GP) (ad : Nat → Nat) (σ : Nat → Nat → Int32) (p : Int32) : CT l G yX12_isPerson cX12_isPerson 1 (some .boolean) 1 [.int p] (WE G ad σ) (some (.int (bI (0 ≤ p ∧ p < 4)))) (WE G ad σ) := by
  refine x_meth "BetsOnBetsModel" rfl (by decide +kernel) (by rfl) (Nat.le_of_ble_eq_true rfl) ?_
  intro pP eE sS mM args below meth cC A ls hC hr hkL hK hZ hA hH hl
  have hx := hC.1
  have hb := hC.2.1
  have hl : lv_has ls 1 [(0, .int p)] := hl
  refine lv_iload_n hx hb dX12_isPerson_0 rfl (lv_at hl 0 rfl) ?_
  refine lv_iconst (v := 4) hx hb dX12_isPerson_1 (by decide) ?_
  refine x_callS (ws' := WE G ad σ) (As := [.int p, .int 4]) (rest := []) (st' := [.int (bI (0 ≤ p ∧ p < 4))]) hC hK hZ hA hl.1 hH (k_X12_isIn l G (pk ad []) (pk σ []) p 4) lk_X12_31 [] rfl rfl rfl rfl ⟨Nat.le_of_ble_eq_true rfl, Nat.le_of_ble_eq_true rfl⟩ ⟨Nat.le_refl _, Nat.le_refl _⟩ (Nat.le_of_ble_eq_true rfl) rfl dX12_isPerson_2 (fun H locs hH => ?_)
  exact x_zret hC hr hkL hH nar_bI rfl rfl dX12_isPerson_5
set_option maxHeartbeats 4000000 in
set_option maxRecDepth 100000 in
theorem k_X12_copies (l : Launch) (G : GP) (ad : Nat → Nat) (σ : Nat → Nat → Int32) : CT l G yX12_copies cX12_copies 3 none 0 [.ref (ad 0), .ref (ad 1)] (WC2 G ad σ) none (WC2 G ad (ua σ 1 (σ 0))) := by
  refine x_meth "BetsOnBetsModel" rfl (by decide +kernel) (by rfl) (Nat.le_of_ble_eq_true rfl) ?_
  intro pP eE sS mM args below meth cC A ls hC hr hkL hK hZ hA hH hl
  have hx := hC.1
  have hb := hC.2.1
  have hl : lv_has ls 3 [(0, .ref (ad 0)), (1, .ref (ad 1))] := hl
  refine lv_iconst (v := 0) hx hb dX12_copies_0 (by decide) ?_
  refine lv_istore_n (lv' := [(2, .int 0), (0, .ref (ad 0)), (1, .ref (ad 1))]) hx hb dX12_copies_1 rfl hl (by decide) rfl (fun ls hl => ?_)
  refine x_loop (G := G) (A := A) (H0 := sS.heap) (nL := 3) (α := Nat) (fun q_ => 52 - q_) (fun q_ => q_ ≤ 52) (fun q_ => WC2 G ad (ua σ 1 (cpyF (σ 0) (σ 1) q_))) (fun q_ => [(0, .ref (ad 0)), (1, .ref (ad 1)), (2, .int (nI q_))]) ?_ 0 (show 0 ≤ 52 from (Nat.zero_le _)) ?_ ?_
  · rintro k hi_k ih_k H locs ls hH hl
    replace hi_k : k ≤ 52 := hi_k
    replace hH : Hx G A (WC2 G ad (ua σ 1 (cpyF (σ 0) (σ 1) k))) sS.heap H locs := hH
    replace hl : lv_has ls 3 [(0, .ref (ad 0)), (1, .ref (ad 1)), (2, .int (nI k))] := hl
    refine lv_iload_n hx hb dX12_copies_2 rfl (lv_at hl 2 rfl) ?_
    refine lv_bipush (v := 52) hx hb dX12_copies_3 (by decide) ?_
    refine lv_icmp_ge (tgt := 20) hx hb dX12_copies_5 (by decide) (fun c5 => ?_) (fun c5 => ?_)
    · have ge_k := lp_out (n := 52) rfl (by omega) (by omega) c5
      have eq_k : k = 52 := by omega
      subst eq_k
      have hH : Hx G A (WC2 G ad (ua σ 1 (σ 0))) sS.heap H locs := hx_arr 1 hH rfl (fun j hj => cpyF_in _ _ hj) rfl
      exact x_vret hC hr hkL hH rfl dX12_copies_20
    · have lt_k := lp_in (n := 52) rfl (by omega) (by omega) c5
      refine lv_aload_n hx hb dX12_copies_8 rfl (lv_at hl 1 rfl) ?_
      refine lv_iload_n hx hb dX12_copies_9 rfl (lv_at hl 2 rfl) ?_
      refine lv_aload_n hx hb dX12_copies_10 rfl (lv_at hl 0 rfl) ?_
      refine lv_iload_n hx hb dX12_copies_11 rfl (lv_at hl 2 rfl) ?_
      refine x_ialN (f := (σ 0)) hC hK hH 0 k rfl rfl (by omega) (Nat.le_of_ble_eq_true rfl) dX12_copies_12 ?_
      refine x_iasN (f := (cpyF (σ 0) (σ 1) k)) (ws' := WC2 G ad (ua σ 1 (upd (cpyF (σ 0) (σ 1) k) k ((σ 0) k)))) hC hK hH 1 k rfl rfl (by omega) (Nat.le_of_ble_eq_true rfl) dX12_copies_13 rfl (fun H locs hH => ?_)
      refine lv_iinc (v := ((nI k) + 1)) (lv' := [(2, .int ((nI k) + 1)), (0, .ref (ad 0)), (1, .ref (ad 1))]) hx hb dX12_copies_14 hl (k := 2) rfl rfl (by decide) rfl (fun ls hl => ?_)
      refine lv_goto (tgt := 2) hx hb dX12_copies_17 (by decide) ?_
      exact ih_k (k + 1) (show (k + 1) ≤ 52 from (by omega)) (show 52 - (k + 1) < 52 - k from (by omega)) _ _ _ (hH.eq (congrArg (fun z_ : Nat → Int32 => WC2 G ad (ua σ 1 z_)) (by first | rfl | exact cpyF_s _ _ _ : (upd (cpyF (σ 0) (σ 1) k) k ((σ 0) k)) = (cpyF (σ 0) (σ 1) (k + 1))))) (lv_eq (lv_sub hl [1, 2, 0] rfl) (lc_s (lc_s (lc_i (by first | rfl | exact nI_1 _ : ((nI k) + 1) = (nI (k + 1))) rfl))))
  · exact hH.eq (Eq.trans (show WC2 G ad σ = WC2 G ad (ua σ 1 (σ 1)) from rfl) (congrArg (fun z_ : Nat → Int32 => WC2 G ad (ua σ 1 z_)) (by exact (cpyF_0 _ _).symm : (σ 1) = (cpyF (σ 0) (σ 1) 0))))
  · exact lv_eq (lv_sub hl [1, 2, 0] rfl) (lc_s (lc_s (lc_i (by rfl : 0 = (nI 0)) rfl)))
set_option maxHeartbeats 4000000 in
set_option maxRecDepth 100000 in
theorem k_X12_bits (l : Launch) (G : GP) (ad : Nat → Nat) (σ : Nat → Nat → Int32) (v0 : Int32) (q : Nat) (hv : v0 = nI q) (hq : q < 65536) : CT l G yX12_bits cX12_bits 3 (some .int) 0 [.int v0] (WE G ad σ) (some (.int (nI (popc 16 q)))) (WE G ad σ) := by
  refine x_meth "BetsOnBetsModel" rfl (by decide +kernel) (by rfl) (Nat.le_of_ble_eq_true rfl) ?_
  intro pP eE sS mM args below meth cC A ls hC hr hkL hK hZ hA hH hl
  have hx := hC.1
  have hb := hC.2.1
  have hl : lv_has ls 3 [(0, .int v0)] := hl
  refine lv_iconst (v := 0) hx hb dX12_bits_0 (by decide) ?_
  refine lv_istore_n (lv' := [(1, .int 0), (0, .int v0)]) hx hb dX12_bits_1 rfl hl (by decide) rfl (fun ls hl => ?_)
  refine lv_iload_n hx hb dX12_bits_2 rfl (lv_at hl 1 rfl) ?_
  refine lv_istore_n (lv' := [(2, .int v0), (1, .int 0), (0, .int v0)]) hx hb dX12_bits_3 rfl hl (by decide) rfl (fun ls hl => ?_)
  refine x_loop (G := G) (A := A) (H0 := sS.heap) (nL := 3) (α := Nat × Nat × Nat) (fun q_ => q_.1) (fun q_ => q_.1 < 2 ^ q_.2.2 ∧ q_.2.1 + popc q_.2.2 q_.1 = popc 16 q ∧ q_.2.2 ≤ 16) (fun q_ => WE G ad σ) (fun q_ => [(1, .int (nI q_.2.1)), (2, .int (nI q_.1))]) ?_ (q, 0, 16) (show q < 2 ^ 16 ∧ 0 + popc 16 q = popc 16 q ∧ 16 ≤ 16 from ⟨hq, by simp⟩) ?_ ?_
  · rintro ⟨v, n, t⟩ hi_v ih_v H locs ls hH hl
    replace hi_v : v < 2 ^ t ∧ n + popc t v = popc 16 q ∧ t ≤ 16 := hi_v
    replace hH : Hx G A (WE G ad σ) sS.heap H locs := hH
    replace hl : lv_has ls 3 [(1, .int (nI n)), (2, .int (nI v))] := hl
    have v16 : v < 2 ^ 16 := Nat.lt_of_lt_of_le hi_v.1 (Nat.pow_le_pow_right (by omega) hi_v.2.2)
    refine lv_iload_n hx hb dX12_bits_4 rfl (lv_at hl 1 rfl) ?_
    refine lv_if_le (tgt := 21) hx hb dX12_bits_5 (by decide) (fun c5 => ?_) (fun c5 => ?_)
    · refine lv_iload_n hx hb dX12_bits_21 rfl (lv_at hl 0 rfl) ?_
      exact x_iret hC hr hkL hH (by have v0 : ¬ 0 < v := (fun z => absurd ((nI_gt0 (by omega)).mpr z) (Int32.not_lt.mpr c5)); have v00 : v = 0 := (by omega); have h2 := hi_v.2.1; rw [v00, popc_0] at h2; rw [← h2, Nat.add_zero]) rfl dX12_bits_22
    · refine lv_iload_n hx hb dX12_bits_8 rfl (lv_at hl 0 rfl) ?_
      refine lv_iload_n hx hb dX12_bits_9 rfl (lv_at hl 1 rfl) ?_
      refine lv_iconst (v := 1) hx hb dX12_bits_10 (by decide) ?_
      refine lv_iand hx hb dX12_bits_11 ?_
      refine lv_iadd hx hb dX12_bits_12 ?_
      refine lv_istore_n (lv' := [(1, .int ((nI n) + ((nI v) &&& 1))), (2, .int (nI v))]) hx hb dX12_bits_13 rfl hl (by decide) rfl (fun ls hl => ?_)
      refine lv_iload_n hx hb dX12_bits_14 rfl (lv_at hl 1 rfl) ?_
      refine lv_iconst (v := 1) hx hb dX12_bits_15 (by decide) ?_
      refine lv_ishr hx hb dX12_bits_16 ?_
      refine lv_istore_n (lv' := [(2, .int ((nI v) >>> (1 &&& 31))), (1, .int ((nI n) + ((nI v) &&& 1)))]) hx hb dX12_bits_17 rfl hl (by decide) rfl (fun ls hl => ?_)
      refine lv_goto (tgt := 4) hx hb dX12_bits_18 (by decide) ?_
      have v0 : 0 < v := (nI_gt0 (by omega)).mp (Int32.not_le.mp c5)
      have t0 : t ≠ 0 := (fun e => by have := hi_v.1; rw [e] at this; omega)
      exact ih_v ((v / 2), (n + v % 2), (t - 1)) (show (v / 2) < 2 ^ (t - 1) ∧ (n + v % 2) + popc (t - 1) (v / 2) = popc 16 q ∧ (t - 1) ≤ 16 from ⟨by have := hi_v.1; rw [pow_pr t0] at this; omega, by have := hi_v.2.1; rw [popc_pr t0] at this; omega, by omega⟩) (show (v / 2) < v from (by omega)) _ _ _ (hH.eq rfl) (lv_eq (lv_sub hl [1, 0] rfl) (lc_i (by rw [nI_and1 (by omega), nI_add] : ((nI n) + ((nI v) &&& 1)) = (nI (n + v % 2))) (lc_i (by exact nI_shr1 (by omega) : ((nI v) >>> (1 &&& 31)) = (nI (v / 2))) rfl)))
  · exact hH.eq rfl
  · exact lv_eq (lv_sub hl [1, 0] rfl) (lc_i (by first | rfl | exact hv : 0 = (nI 0)) (lc_i (by first | rfl | exact hv : v0 = (nI q)) rfl))
set_option maxHeartbeats 4000000 in
set_option maxRecDepth 100000 in
theorem k_X12_refuse (l : Launch) (G : GP) (ad : Nat → Nat) (σ : Nat → Nat → Int32) (code : Int32) (j : Nat) (hj : -code = nI j) (hj7 : j < 7) : CT l G yX12_refuse cX12_refuse 2 (some .int) 0 [.ref (ad 0), .int code] (WM G ad σ) (some (.int code)) (WM G ad (ua σ 1 (upd (σ 1) j ((σ 1) j + 1)))) := by
  refine x_meth "BetsOnBetsModel" rfl (by decide +kernel) (by rfl) (Nat.le_of_ble_eq_true rfl) ?_
  intro pP eE sS mM args below meth cC A ls hC hr hkL hK hZ hA hH hl
  have hx := hC.1
  have hb := hC.2.1
  have hl : lv_has ls 2 [(0, .ref (ad 0)), (1, .int code)] := hl
  refine lv_aload_n hx hb dX12_refuse_0 rfl (lv_at hl 0 rfl) ?_
  refine gf_X12_7 (v := .ref (ad 1)) hC hK hH 0 rfl rfl dX12_refuse_1 ?_
  refine lv_iload_n hx hb dX12_refuse_4 rfl (lv_at hl 1 rfl) ?_
  refine lv_ineg hx hb dX12_refuse_5 ?_
  refine lv_dup2_11 hx hb dX12_refuse_6 rfl rfl ?_
  refine x_ialN (f := (σ 1)) hC hK hH 1 j rfl hj hj7 (Nat.le_of_ble_eq_true rfl) dX12_refuse_7 ?_
  refine lv_iconst (v := 1) hx hb dX12_refuse_8 (by decide) ?_
  refine lv_iadd hx hb dX12_refuse_9 ?_
  refine x_iasN (f := (σ 1)) (ws' := WM G ad (ua σ 1 (upd (σ 1) j (((σ 1) j) + 1)))) hC hK hH 1 j rfl hj hj7 (Nat.le_of_ble_eq_true rfl) dX12_refuse_10 rfl (fun H locs hH => ?_)
  refine lv_iload_n hx hb dX12_refuse_11 rfl (lv_at hl 1 rfl) ?_
  exact x_iret hC hr hkL hH rfl (congrArg (fun z_ : Nat → Int32 => WM G ad (ua σ 1 z_)) (by first | rfl | simp : (upd (σ 1) j ((σ 1) j + 1)) = (upd (σ 1) j (((σ 1) j) + 1)))) dX12_refuse_12
