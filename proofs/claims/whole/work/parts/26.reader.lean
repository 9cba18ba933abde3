/-! the class: the Reader -/
/-- what is stuck, and the place -/
def gP (n : Nat) (a : Pg) : Prop := ¬ a.1 ∧ a.2 < n
noncomputable def nxF (L : Nat → Int32) (n k : Nat) (a : Pg) : Int32 := cI (gP n a) (ixA k (L a.2)) (-1)
noncomputable def oF (L : Nat → Int32) (n k : Nat) (a : Pg) : Pg := cI (nxF L n k a < 0) (True, a.2) (a.1, a.2 + 1)
noncomputable def oV (L : Nat → Int32) (n k : Nat) (a : Pg) : Int32 := cI (nxF L n k a < 0) 0 (nxF L n k a)
noncomputable def tF (L : Nat → Int32) (n : Nat) (a : Pg) : Pg := cI (nxF L n 1 (oF L n 1 a) < 0) (oF L n 1 a) (oF L n 1 (oF L n 1 a))
noncomputable def tV (L : Nat → Int32) (n : Nat) (a : Pg) : Int32 := cI (nxF L n 1 (oF L n 1 a) < 0) (oV L n 1 a) (oV L n 1 a * 10 + oV L n 1 (oF L n 1 a))
noncomputable def mF (L : Nat → Int32) (n : Nat) (a : Pg) : Pg := oF L n 1 (oF L n 3 a)
noncomputable def mV (L : Nat → Int32) (n : Nat) (a : Pg) : Int32 := oV L n 3 a * 10 + oV L n 1 (oF L n 3 a)
noncomputable def b1 (L : Nat → Int32) (n : Nat) (a : Pg) : Pg := oF L n 2 a
noncomputable def b2 (L : Nat → Int32) (n : Nat) (a : Pg) : Pg := mF L n (b1 L n a)
noncomputable def b3 (L : Nat → Int32) (n : Nat) (a : Pg) : Pg := mF L n (b2 L n a)
noncomputable def b4 (L : Nat → Int32) (n : Nat) (a : Pg) : Pg := tF L n (b3 L n a)
noncomputable def b5 (L : Nat → Int32) (n : Nat) (a : Pg) : Pg := oF L n 4 (b4 L n a)
noncomputable def b6 (L : Nat → Int32) (n : Nat) (a : Pg) : Pg := oF L n 1 (b5 L n a)
noncomputable def b7 (L : Nat → Int32) (n : Nat) (a : Pg) : Pg := oF L n 1 (b6 L n a)
noncomputable def b8 (L : Nat → Int32) (n : Nat) (a : Pg) : Pg := oF L n 1 (b7 L n a)
noncomputable def bT (L : Nat → Int32) (n : Nat) (a : Pg) (N : Nat → Int32) : Nat → Int32 := upd (upd (upd (upd (upd (upd (upd N 0 (oV L n 2 a)) 1 (mV L n (b1 L n a))) 2 (mV L n (b2 L n a))) 3 (tV L n (b3 L n a))) 4 (oV L n 1 (b5 L n a))) 5 (oV L n 1 (b6 L n a))) 6 (oV L n 1 (b7 L n a))
noncomputable def fF (L : Nat → Int32) (n : Nat) (a : Pg) : Pg := tF L n (oF L n 4 (oF L n 1 a))
noncomputable def fT (L : Nat → Int32) (n : Nat) (a : Pg) (N : Nat → Int32) : Nat → Int32 := upd (upd N 0 (oV L n 1 a)) 1 (tV L n (oF L n 4 (oF L n 1 a)))
noncomputable def sB (L : Nat → Int32) (n : Nat) (a : Pg) : Pg := cI (oV L n 0 a = 0) (tF L n (oF L n 0 a)) (cI (oV L n 0 a = 1) (b8 L n (oF L n 0 a)) (fF L n (oF L n 0 a)))
noncomputable def sF (L : Nat → Int32) (n : Nat) (a : Pg) : Pg := oF L n 5 (sB L n a)
noncomputable def sT (L : Nat → Int32) (n : Nat) (a : Pg) (N : Nat → Int32) : Nat → Int32 := cI (oV L n 0 a = 0) (upd N 0 (tV L n (oF L n 0 a))) (cI (oV L n 0 a = 1) (bT L n (oF L n 0 a) N) (fT L n (oF L n 0 a) N))
def LB (L : Nat → Int32) (n : Nat) : Prop := ∀ j, j < n → ∃ c, c < 256 ∧ L j = nI c
theorem i2c_b {x : Int32} {c : Nat} (h : x = nI c) (hc : c < 256) : (x.toUInt32 % 65536).toInt32 = x := by
  subst h
  have key : ∀ c, c < 256 → ((nI c).toUInt32 % 65536).toInt32 = nI c := by decide +kernel
  exact key c hc
theorem oF_le {L : Nat → Int32} {n k : Nat} {a : Pg} (h : a.2 ≤ n) : (oF L n k a).2 ≤ n := by
  unfold oF
  by_cases q : nxF L n k a < 0
  · rw [cI_t q]; exact h
  · rw [cI_f q]
    by_cases g : gP n a
    · exact g.2
    · rw [nxF, cI_f g] at q; exact absurd (by decide) q
theorem oF_w1 {L : Nat → Int32} {n k : Nat} {a : Pg} {f : Nat → Int32} (h2 : f 2 = nI a.2) (q : nxF L n k a < 0) : upd (upd f 2 (nI (oF L n k a).2)) 3 (bI (oF L n k a).1) = upd f 3 1 := by
  unfold oF
  rw [cI_t q]
  rw [show upd f 2 (nI (True, a.2).2) = f from upd_id h2.symm, show bI (True, a.2).1 = 1 from bI_t trivial]
theorem oF_w2 {L : Nat → Int32} {n k : Nat} {a : Pg} {f : Nat → Int32} (h3 : f 3 = bI a.1) (q : ¬ nxF L n k a < 0) : upd (upd f 2 (nI (oF L n k a).2)) 3 (bI (oF L n k a).1) = upd f 2 (nI (a.2 + 1)) := by
  unfold oF
  rw [cI_f q]
  exact upd_id (by rw [pk_un (by decide)]; exact h3.symm)
theorem tF_le {L : Nat → Int32} {n : Nat} {a : Pg} (h : a.2 ≤ n) : (tF L n a).2 ≤ n := by
  unfold tF
  by_cases q : nxF L n 1 (oF L n 1 a) < 0
  · rw [cI_t q]; exact oF_le h
  · rw [cI_f q]; exact oF_le (oF_le h)
theorem mF_le {L : Nat → Int32} {n : Nat} {a : Pg} (h : a.2 ≤ n) : (mF L n a).2 ≤ n := oF_le (oF_le h)
theorem b1_le {L : Nat → Int32} {n : Nat} {a : Pg} (h : a.2 ≤ n) : (b1 L n a).2 ≤ n := oF_le h
theorem b2_le {L : Nat → Int32} {n : Nat} {a : Pg} (h : a.2 ≤ n) : (b2 L n a).2 ≤ n := mF_le (b1_le h)
theorem b3_le {L : Nat → Int32} {n : Nat} {a : Pg} (h : a.2 ≤ n) : (b3 L n a).2 ≤ n := mF_le (b2_le h)
theorem b4_le {L : Nat → Int32} {n : Nat} {a : Pg} (h : a.2 ≤ n) : (b4 L n a).2 ≤ n := tF_le (b3_le h)
theorem b5_le {L : Nat → Int32} {n : Nat} {a : Pg} (h : a.2 ≤ n) : (b5 L n a).2 ≤ n := oF_le (b4_le h)
theorem b6_le {L : Nat → Int32} {n : Nat} {a : Pg} (h : a.2 ≤ n) : (b6 L n a).2 ≤ n := oF_le (b5_le h)
theorem b7_le {L : Nat → Int32} {n : Nat} {a : Pg} (h : a.2 ≤ n) : (b7 L n a).2 ≤ n := oF_le (b6_le h)
theorem b8_le {L : Nat → Int32} {n : Nat} {a : Pg} (h : a.2 ≤ n) : (b8 L n a).2 ≤ n := oF_le (b7_le h)
theorem fF_le {L : Nat → Int32} {n : Nat} {a : Pg} (h : a.2 ≤ n) : (fF L n a).2 ≤ n := tF_le (oF_le (oF_le h))
theorem sB_le {L : Nat → Int32} {n : Nat} {a : Pg} (h : a.2 ≤ n) : (sB L n a).2 ≤ n := by
  unfold sB
  by_cases q : oV L n 0 a = 0
  · rw [cI_t q]; exact tF_le (oF_le h)
  · rw [cI_f q]
    by_cases q1 : oV L n 0 a = 1
    · rw [cI_t q1]; exact b8_le (oF_le h)
    · rw [cI_f q1]; exact fF_le (oF_le h)
theorem sF_le {L : Nat → Int32} {n : Nat} {a : Pg} (h : a.2 ≤ n) : (sF L n a).2 ≤ n := oF_le (sB_le h)
theorem sB_0 {L : Nat → Int32} {n : Nat} {a : Pg} (h : oV L n 0 a = 0) : sB L n a = tF L n (oF L n 0 a) := cI_t h
theorem sB_1 {L : Nat → Int32} {n : Nat} {a : Pg} (h : oV L n 0 a = 1) : sB L n a = b8 L n (oF L n 0 a) := by rw [sB, cI_f (by rw [h]; decide), cI_t h]
theorem sB_2 {L : Nat → Int32} {n : Nat} {a : Pg} (h : ¬ oV L n 0 a = 0) (h1 : ¬ oV L n 0 a = 1) : sB L n a = fF L n (oF L n 0 a) := by rw [sB, cI_f h, cI_f h1]
theorem sT_0 {L : Nat → Int32} {n : Nat} {a : Pg} {N : Nat → Int32} (h : oV L n 0 a = 0) : sT L n a N = upd N 0 (tV L n (oF L n 0 a)) := cI_t h
theorem sT_1 {L : Nat → Int32} {n : Nat} {a : Pg} {N : Nat → Int32} (h : oV L n 0 a = 1) : sT L n a N = bT L n (oF L n 0 a) N := by rw [sT, cI_f (by rw [h]; decide), cI_t h]
theorem sT_2 {L : Nat → Int32} {n : Nat} {a : Pg} {N : Nat → Int32} (h : ¬ oV L n 0 a = 0) (h1 : ¬ oV L n 0 a = 1) : sT L n a N = fT L n (oF L n 0 a) N := by rw [sT, cI_f h, cI_f h1]
/-- while it goes on, at most m statements -/
noncomputable def fpS (L : Nat → Int32) (n : Nat) : Nat → Pg → Pg
  | 0, a => a
  | m + 1, a => cI (gP n a) (fpS L n m (sF L n a)) a
noncomputable def fpA (L : Nat → Int32) (n : Nat) : Pg := fpS L n 79 (sF L n (False, 0))
noncomputable def fpV (L : Nat → Int32) (n : Nat) : Int32 := cI (fpA L n).1 (nI (fpA L n).2) (-9)
theorem fpS_t {L : Nat → Int32} {n m : Nat} {a : Pg} (h : gP n a) (hm : 0 < m) : fpS L n (m - 1) (sF L n a) = fpS L n m a := by
  obtain ⟨k, rfl⟩ : ∃ k, m = k + 1 := ⟨m - 1, by omega⟩
  exact (cI_t h).symm
theorem fpS_f {L : Nat → Int32} {n m : Nat} {a : Pg} (h : ¬ gP n a) : fpS L n m a = a := by
  cases m with
  | zero => rfl
  | succ m => exact cI_f h
set_option maxHeartbeats 4000000 in
set_option maxRecDepth 100000 in
theorem k_X8_begin (l : Launch) (G : GP) (ad : Nat → Nat) (σ : Nat → Nat → Int32) : CT l G yX8_begin cX8_begin 1 none 0 [.ref (ad 0)] (WRD G ad σ) none (WRD G ad (ua σ 0 (upd (upd (σ 0) 2 0) 3 0))) := by
  refine x_meth "BetsOnBets$Reader" rfl (by decide +kernel) (by rfl) (Nat.le_of_ble_eq_true rfl) ?_
  intro pP eE sS mM args below meth cC A ls hC hr hkL hK hZ hA hH hl
  have hx := hC.1
  have hb := hC.2.1
  have hl : lv_has ls 1 [(0, .ref (ad 0))] := hl
  refine lv_aload_n hx hb dX8_begin_0 rfl (lv_at hl 0 rfl) ?_
  refine lv_iconst (v := 0) hx hb dX8_begin_1 (by decide) ?_
  refine pf_X8_24 (ws' := WRD G ad (ua σ 0 (upd (σ 0) 2 0))) hC hK hH 0 rfl rfl rfl (Nat.le_of_ble_eq_true rfl) dX8_begin_2 rfl (fun H locs hH => ?_)
  refine lv_aload_n hx hb dX8_begin_5 rfl (lv_at hl 0 rfl) ?_
  refine lv_iconst (v := 0) hx hb dX8_begin_6 (by decide) ?_
  refine pf_X8_28 (ws' := WRD G ad (ua σ 0 (upd (upd (σ 0) 2 0) 3 0))) hC hK hH 0 rfl rfl rfl (Nat.le_of_ble_eq_true rfl) dX8_begin_7 rfl (fun H locs hH => ?_)
  exact x_vret hC hr hkL hH rfl dX8_begin_10
set_option maxHeartbeats 4000000 in
set_option maxRecDepth 100000 in
theorem k_X8_goesOn (l : Launch) (G : GP) (ad : Nat → Nat) (σ : Nat → Nat → Int32) (n : Nat) (a : Pg) (hn : (σ 2 1) = nI n) (hn80 : n ≤ 80) (hp : (σ 0 2) = nI a.2) (hs : (σ 0 3) = bI a.1) (ha : a.2 ≤ n) (hLb : LB (σ 3) n) : CT l G yX8_goesOn cX8_goesOn 1 (some .boolean) 0 [.ref (ad 0)] (WRD G ad σ) (some (.int (bI (gP n a)))) (WRD G ad σ) := by
  refine x_meth "BetsOnBets$Reader" rfl (by decide +kernel) (by rfl) (Nat.le_of_ble_eq_true rfl) ?_
  intro pP eE sS mM args below meth cC A ls hC hr hkL hK hZ hA hH hl
  have hx := hC.1
  have hb := hC.2.1
  have hl : lv_has ls 1 [(0, .ref (ad 0))] := hl
  refine lv_aload_n hx hb dX8_goesOn_0 rfl (lv_at hl 0 rfl) ?_
  refine gf_X8_28 (v := .int (σ 0 3)) hC hK hH 0 rfl rfl dX8_goesOn_1 ?_
  refine x_topE (y := (bI (a.1))) hs ?_
  refine x_bne (tgt := 25) hC dX8_goesOn_4 (by decide) (fun c4 => ?_) (fun c4 => ?_)
  · refine lv_iconst (v := 0) hx hb dX8_goesOn_25 (by decide) ?_
    exact x_zret hC hr hkL hH nar_bI (bI_f (by first | exact fun z => z.1 c4 | exact fun z => absurd ((nI_leI (a := n) (b := a.2) (by omega) (by omega)).mp c18) (by have := z.2; omega))) rfl dX8_goesOn_26
  · refine lv_aload_n hx hb dX8_goesOn_7 rfl (lv_at hl 0 rfl) ?_
    refine gf_X8_24 (v := .int (σ 0 2)) hC hK hH 0 rfl rfl dX8_goesOn_8 ?_
    refine x_topE (y := (nI a.2)) hp ?_
    refine lv_aload_n hx hb dX8_goesOn_11 rfl (lv_at hl 0 rfl) ?_
    refine gf_X8_14 (v := .ref (ad 2)) hC hK hH 0 rfl rfl dX8_goesOn_12 ?_
    refine gf_X8_32 (v := .int (σ 2 1)) hC hK hH 2 rfl rfl dX8_goesOn_15 ?_
    refine x_topE (y := (nI n)) hn ?_
    refine lv_icmp_ge (tgt := 25) hx hb dX8_goesOn_18 (by decide) (fun c18 => ?_) (fun c18 => ?_)
    · refine lv_iconst (v := 0) hx hb dX8_goesOn_25 (by decide) ?_
      exact x_zret hC hr hkL hH nar_bI (bI_f (by first | exact fun z => z.1 c4 | exact fun z => absurd ((nI_leI (a := n) (b := a.2) (by omega) (by omega)).mp c18) (by have := z.2; omega))) rfl dX8_goesOn_26
    · refine lv_iconst (v := 1) hx hb dX8_goesOn_21 (by decide) ?_
      refine lv_goto (tgt := 26) hx hb dX8_goesOn_22 (by decide) ?_
      exact x_zret hC hr hkL hH nar_bI (bI_t (by exact ⟨c4, by have := mt (nI_leI (a := n) (b := a.2) (by omega) (by omega)).mpr c18; omega⟩)) rfl dX8_goesOn_26
set_option maxHeartbeats 4000000 in
set_option maxRecDepth 100000 in
theorem k_X8_nextIn (l : Launch) (G : GP) (ad : Nat → Nat) (σ : Nat → Nat → Int32) (k : Nat) (n : Nat) (a : Pg) (hn : (σ 2 1) = nI n) (hn80 : n ≤ 80) (hp : (σ 0 2) = nI a.2) (hs : (σ 0 3) = bI a.1) (ha : a.2 ≤ n) (hLb : LB (σ 3) n) (hk : k < 6) : CT l G yX8_nextIn cX8_nextIn 2 (some .int) 4 [.ref (ad 0), .ref (G.2.2.1 k)] (WRD G ad σ) (some (.int (nxF (σ 3) n k a))) (WRD G ad σ) := by
  refine x_meth "BetsOnBets$Reader" rfl (by decide +kernel) (by rfl) (Nat.le_of_ble_eq_true rfl) ?_
  intro pP eE sS mM args below meth cC A ls hC hr hkL hK hZ hA hH hl
  have hx := hC.1
  have hb := hC.2.1
  have hl : lv_has ls 2 [(0, .ref (ad 0)), (1, .ref (G.2.2.1 k))] := hl
  refine lv_aload_n hx hb dX8_nextIn_0 rfl (lv_at hl 0 rfl) ?_
  refine x_callVA (ws' := WRD G ad σ) (As := []) (rest := []) (st' := [.int (bI (gP n a))]) hC hK hZ hA hl.1 hH (k_X8_goesOn l G ad σ n a hn hn80 hp hs ha hLb) lk_X8_42 rfl 0 7 rfl rfl rfl ⟨Nat.le_of_ble_eq_true rfl, Nat.le_of_ble_eq_true rfl⟩ ⟨Nat.le_refl _, Nat.le_refl _⟩ (Nat.le_of_ble_eq_true rfl) rfl dX8_nextIn_1 (fun H locs hH => ?_)
  refine x_beq (tgt := 26) hC dX8_nextIn_4 (by decide) (fun c4 => ?_) (fun c4 => ?_)
  · refine lv_iconst (v := (-1)) hx hb dX8_nextIn_26 (by decide) ?_
    exact x_iret hC hr hkL hH (by first | exact cI_t c4 | exact cI_f c4) rfl dX8_nextIn_27
  · obtain ⟨cj_, hc2_, hc_⟩ := hLb a.2 c4.2
    refine lv_aload_n hx hb dX8_nextIn_7 rfl (lv_at hl 1 rfl) ?_
    refine lv_aload_n hx hb dX8_nextIn_8 rfl (lv_at hl 0 rfl) ?_
    refine gf_X8_14 (v := .ref (ad 2)) hC hK hH 0 rfl rfl dX8_nextIn_9 ?_
    refine lv_aload_n hx hb dX8_nextIn_12 rfl (lv_at hl 0 rfl) ?_
    refine gf_X8_24 (v := .int (σ 0 2)) hC hK hH 0 rfl rfl dX8_nextIn_13 ?_
    refine x_topE (y := (nI a.2)) hp ?_
    refine x_callV (ws' := WRD G ad σ) (As := [.int (nI a.2)]) (rest := [.ref (G.2.2.1 k)]) (st' := [.int (atF (σ 3) 80 (nI a.2)), .ref (G.2.2.1 k)]) hC hK hZ hA hl.1 hH (k_X9_get l G 80 (pk ad [2, 3]) (pk σ [2, 3]) (nI a.2) (by decide)) lk_X8_78 [2, 3] rfl rfl rfl 2 8 rfl rfl rfl ⟨Nat.le_of_ble_eq_true rfl, Nat.le_of_ble_eq_true rfl⟩ ⟨Nat.le_refl _, Nat.le_refl _⟩ (Nat.le_of_ble_eq_true rfl) rfl dX8_nextIn_16 (fun H locs hH => ?_)
    refine x_topE (y := ((σ 3) a.2)) (atF_in rfl (Nat.lt_of_lt_of_le c4.2 hn80) (by decide)) ?_
    refine lv_i2c (v := ((((σ 3) a.2).toUInt32 % 65536).toInt32)) hx hb dX8_nextIn_19 rfl ?_
    refine x_topE (y := ((σ 3) a.2)) (i2c_b hc_ hc2_) ?_
    refine x_callVS (ws' := WRD G ad σ) (k := k) (As := [.int ((σ 3) a.2)]) (rest := []) (st' := [.int (ixA k ((σ 3) a.2))]) hC hK hZ hA hl.1 hH hk (k_J0_indexOf_0f7a4 l G (pk ad []) (pk σ []) k ((σ 3) a.2) cj_ hk hc_ hc2_) lk_X8_82 [] rfl rfl rfl rfl ⟨Nat.le_of_ble_eq_true rfl, Nat.le_of_ble_eq_true rfl⟩ ⟨Nat.le_refl _, Nat.le_refl _⟩ (Nat.le_of_ble_eq_true rfl) rfl dX8_nextIn_20 (fun H locs hH => ?_)
    refine lv_goto (tgt := 27) hx hb dX8_nextIn_23 (by decide) ?_
    exact x_iret hC hr hkL hH (by first | exact cI_t c4 | exact cI_f c4) rfl dX8_nextIn_27
set_option maxHeartbeats 4000000 in
set_option maxRecDepth 100000 in
theorem k_X8_oneOf (l : Launch) (G : GP) (ad : Nat → Nat) (σ : Nat → Nat → Int32) (k : Nat) (n : Nat) (a : Pg) (hn : (σ 2 1) = nI n) (hn80 : n ≤ 80) (hp : (σ 0 2) = nI a.2) (hs : (σ 0 3) = bI a.1) (ha : a.2 ≤ n) (hLb : LB (σ 3) n) (hk : k < 6) : CT l G yX8_oneOf cX8_oneOf 3 (some .int) 5 [.ref (ad 0), .ref (G.2.2.1 k)] (WRD G ad σ) (some (.int (oV (σ 3) n k a))) (WRD G ad (ua σ 0 (upd (upd (σ 0) 2 (nI (oF (σ 3) n k a).2)) 3 (bI (oF (σ 3) n k a).1)))) := by
  refine x_meth "BetsOnBets$Reader" rfl (by decide +kernel) (by rfl) (Nat.le_of_ble_eq_true rfl) ?_
  intro pP eE sS mM args below meth cC A ls hC hr hkL hK hZ hA hH hl
  have hx := hC.1
  have hb := hC.2.1
  have hl : lv_has ls 3 [(0, .ref (ad 0)), (1, .ref (G.2.2.1 k))] := hl
  refine lv_aload_n hx hb dX8_oneOf_0 rfl (lv_at hl 0 rfl) ?_
  refine lv_aload_n hx hb dX8_oneOf_1 rfl (lv_at hl 1 rfl) ?_
  refine x_callVA (ws' := WRD G ad σ) (As := [.ref (G.2.2.1 k)]) (rest := []) (st' := [.int (nxF (σ 3) n k a)]) hC hK hZ hA hl.1 hH (k_X8_nextIn l G ad σ k n a hn hn80 hp hs ha hLb hk) lk_X8_75 rfl 0 7 rfl rfl rfl ⟨Nat.le_of_ble_eq_true rfl, Nat.le_of_ble_eq_true rfl⟩ ⟨Nat.le_refl _, Nat.le_refl _⟩ (Nat.le_of_ble_eq_true rfl) rfl dX8_oneOf_2 (fun H locs hH => ?_)
  refine lv_istore_n (lv' := [(2, .int (nxF (σ 3) n k a)), (0, .ref (ad 0)), (1, .ref (G.2.2.1 k))]) hx hb dX8_oneOf_5 rfl hl (by decide) rfl (fun ls hl => ?_)
  refine lv_iload_n hx hb dX8_oneOf_6 rfl (lv_at hl 0 rfl) ?_
  refine lv_if_ge (tgt := 17) hx hb dX8_oneOf_7 (by decide) (fun c7 => ?_) (fun c7 => ?_)
  · refine lv_aload_n hx hb dX8_oneOf_17 rfl (lv_at hl 1 rfl) ?_
    refine lv_dup hx hb dX8_oneOf_18 rfl ?_
    refine gf_X8_24 (v := .int (σ 0 2)) hC hK hH 0 rfl rfl dX8_oneOf_19 ?_
    refine x_topE (y := (nI a.2)) hp ?_
    refine lv_iconst (v := 1) hx hb dX8_oneOf_22 (by decide) ?_
    refine lv_iadd hx hb dX8_oneOf_23 ?_
    refine x_topE (y := (nI (a.2 + 1))) (nI_1 _) ?_
    refine pf_X8_24 (ws' := WRD G ad (ua σ 0 (upd (σ 0) 2 (nI (a.2 + 1))))) hC hK hH 0 rfl rfl rfl (Nat.le_of_ble_eq_true rfl) dX8_oneOf_24 rfl (fun H locs hH => ?_)
    refine lv_iload_n hx hb dX8_oneOf_27 rfl (lv_at hl 0 rfl) ?_
    exact x_iret hC hr hkL hH (by first | exact cI_t (Int32.not_le.mp c7) | exact cI_f (Int32.not_lt.mpr c7)) (congrArg (fun z_ : Nat → Int32 => WRD G ad (ua σ 0 z_)) (by first | exact oF_w1 hp (Int32.not_le.mp c7) | exact oF_w2 hs (Int32.not_lt.mpr c7) : (upd (upd (σ 0) 2 (nI (oF (σ 3) n k a).2)) 3 (bI (oF (σ 3) n k a).1)) = (upd (σ 0) 2 (nI (a.2 + 1))))) dX8_oneOf_28
  · refine lv_aload_n hx hb dX8_oneOf_10 rfl (lv_at hl 1 rfl) ?_
    refine lv_iconst (v := 1) hx hb dX8_oneOf_11 (by decide) ?_
    refine pf_X8_28 (ws' := WRD G ad (ua σ 0 (upd (σ 0) 3 1))) hC hK hH 0 rfl rfl rfl (Nat.le_of_ble_eq_true rfl) dX8_oneOf_12 rfl (fun H locs hH => ?_)
    refine lv_iconst (v := 0) hx hb dX8_oneOf_15 (by decide) ?_
    exact x_iret hC hr hkL hH (by first | exact cI_t (Int32.not_le.mp c7) | exact cI_f (Int32.not_lt.mpr c7)) (congrArg (fun z_ : Nat → Int32 => WRD G ad (ua σ 0 z_)) (by first | exact oF_w1 hp (Int32.not_le.mp c7) | exact oF_w2 hs (Int32.not_lt.mpr c7) : (upd (upd (σ 0) 2 (nI (oF (σ 3) n k a).2)) 3 (bI (oF (σ 3) n k a).1)) = (upd (σ 0) 3 1))) dX8_oneOf_16
set_option maxHeartbeats 4000000 in
set_option maxRecDepth 100000 in
theorem k_X8_oneOrTwoDigits (l : Launch) (G : GP) (ad : Nat → Nat) (σ : Nat → Nat → Int32) (n : Nat) (a : Pg) (hn : (σ 2 1) = nI n) (hn80 : n ≤ 80) (hp : (σ 0 2) = nI a.2) (hs : (σ 0 3) = bI a.1) (ha : a.2 ≤ n) (hLb : LB (σ 3) n) : CT l G yX8_oneOrTwoDigits cX8_oneOrTwoDigits 2 (some .int) 6 [.ref (ad 0)] (WRD G ad σ) (some (.int (tV (σ 3) n a))) (WRD G ad (ua σ 0 (upd (upd (σ 0) 2 (nI (tF (σ 3) n a).2)) 3 (bI (tF (σ 3) n a).1)))) := by
  refine x_meth "BetsOnBets$Reader" rfl (by decide +kernel) (by rfl) (Nat.le_of_ble_eq_true rfl) ?_
  intro pP eE sS mM args below meth cC A ls hC hr hkL hK hZ hA hH hl
  have hx := hC.1
  have hb := hC.2.1
  have hl : lv_has ls 2 [(0, .ref (ad 0))] := hl
  refine lv_aload_n hx hb dX8_oneOrTwoDigits_0 rfl (lv_at hl 0 rfl) ?_
  refine x_ldcS 1 hC hK (by decide) dX8_oneOrTwoDigits_1 ?_
  refine x_callVA (ws' := WRD G ad (ua σ 0 (upd (upd (σ 0) 2 (nI (oF (σ 3) n 1 a).2)) 3 (bI (oF (σ 3) n 1 a).1)))) (As := [.ref (G.2.2.1 1)]) (rest := []) (st' := [.int (oV (σ 3) n 1 a)]) hC hK hZ hA hl.1 hH (k_X8_oneOf l G ad σ 1 n a hn hn80 hp hs ha hLb (by first | assumption | decide)) lk_X8_48 rfl 0 7 rfl rfl rfl ⟨Nat.le_of_ble_eq_true rfl, Nat.le_of_ble_eq_true rfl⟩ ⟨Nat.le_refl _, Nat.le_refl _⟩ (Nat.le_of_ble_eq_true rfl) rfl dX8_oneOrTwoDigits_3 (fun H locs hH => ?_)
  refine lv_istore_n (lv' := [(1, .int (oV (σ 3) n 1 a)), (0, .ref (ad 0))]) hx hb dX8_oneOrTwoDigits_6 rfl hl (by decide) rfl (fun ls hl => ?_)
  refine lv_aload_n hx hb dX8_oneOrTwoDigits_7 rfl (lv_at hl 1 rfl) ?_
  refine x_ldcS 1 hC hK (by decide) dX8_oneOrTwoDigits_8 ?_
  refine x_callVA (ws' := WRD G ad (ua σ 0 (upd (upd (σ 0) 2 (nI (oF (σ 3) n 1 a).2)) 3 (bI (oF (σ 3) n 1 a).1)))) (As := [.ref (G.2.2.1 1)]) (rest := []) (st' := [.int (nxF (σ 3) n 1 (oF (σ 3) n 1 a))]) hC hK hZ hA hl.1 hH (k_X8_nextIn l G ad (ua σ 0 (upd (upd (σ 0) 2 (nI (oF (σ 3) n 1 a).2)) 3 (bI (oF (σ 3) n 1 a).1))) 1 n (oF (σ 3) n 1 a) hn hn80 rfl rfl (by repeat (first | assumption | apply oF_le | apply tF_le | apply mF_le | apply b1_le | apply b2_le | apply b3_le | apply b4_le | apply b5_le | apply b6_le | apply b7_le | apply b8_le | apply fF_le | apply sB_le)) hLb (by first | assumption | decide)) lk_X8_75 rfl 0 7 rfl rfl rfl ⟨Nat.le_of_ble_eq_true rfl, Nat.le_of_ble_eq_true rfl⟩ ⟨Nat.le_refl _, Nat.le_refl _⟩ (Nat.le_of_ble_eq_true rfl) rfl dX8_oneOrTwoDigits_10 (fun H locs hH => ?_)
  refine lv_if_lt (tgt := 30) hx hb dX8_oneOrTwoDigits_13 (by decide) (fun c13 => ?_) (fun c13 => ?_)
  · refine lv_iload_n hx hb dX8_oneOrTwoDigits_30 rfl (lv_at hl 0 rfl) ?_
    exact x_iret hC hr hkL hH (by first | exact cI_t c13 | exact cI_f c13) (congrArg (fun z_ : Nat → Int32 => WRD G ad (ua σ 0 z_)) (by first | (rw [show tF (σ 3) n a = _ from cI_t c13]; done) | (rw [show tF (σ 3) n a = _ from cI_f c13]; done) : (upd (upd (σ 0) 2 (nI (tF (σ 3) n a).2)) 3 (bI (tF (σ 3) n a).1)) = (upd (upd (σ 0) 2 (nI (oF (σ 3) n 1 a).2)) 3 (bI (oF (σ 3) n 1 a).1)))) dX8_oneOrTwoDigits_31
  · refine lv_iload_n hx hb dX8_oneOrTwoDigits_16 rfl (lv_at hl 0 rfl) ?_
    refine lv_bipush (v := 10) hx hb dX8_oneOrTwoDigits_17 (by decide) ?_
    refine lv_imul hx hb dX8_oneOrTwoDigits_19 ?_
    refine lv_aload_n hx hb dX8_oneOrTwoDigits_20 rfl (lv_at hl 1 rfl) ?_
    refine x_ldcS 1 hC hK (by decide) dX8_oneOrTwoDigits_21 ?_
    refine x_callVA (ws' := WRD G ad (ua σ 0 (upd (upd (σ 0) 2 (nI (oF (σ 3) n 1 (oF (σ 3) n 1 a)).2)) 3 (bI (oF (σ 3) n 1 (oF (σ 3) n 1 a)).1)))) (As := [.ref (G.2.2.1 1)]) (rest := [.int ((oV (σ 3) n 1 a) * 10)]) (st' := [.int (oV (σ 3) n 1 (oF (σ 3) n 1 a)), .int ((oV (σ 3) n 1 a) * 10)]) hC hK hZ hA hl.1 hH (k_X8_oneOf l G ad (ua σ 0 (upd (upd (σ 0) 2 (nI (oF (σ 3) n 1 a).2)) 3 (bI (oF (σ 3) n 1 a).1))) 1 n (oF (σ 3) n 1 a) hn hn80 rfl rfl (by repeat (first | assumption | apply oF_le | apply tF_le | apply mF_le | apply b1_le | apply b2_le | apply b3_le | apply b4_le | apply b5_le | apply b6_le | apply b7_le | apply b8_le | apply fF_le | apply sB_le)) hLb (by first | assumption | decide)) lk_X8_48 rfl 0 7 rfl rfl rfl ⟨Nat.le_of_ble_eq_true rfl, Nat.le_of_ble_eq_true rfl⟩ ⟨Nat.le_refl _, Nat.le_refl _⟩ (Nat.le_of_ble_eq_true rfl) rfl dX8_oneOrTwoDigits_23 (fun H locs hH => ?_)
    refine lv_iadd hx hb dX8_oneOrTwoDigits_26 ?_
    refine lv_goto (tgt := 31) hx hb dX8_oneOrTwoDigits_27 (by decide) ?_
    exact x_iret hC hr hkL hH (by first | exact cI_t c13 | exact cI_f c13) (congrArg (fun z_ : Nat → Int32 => WRD G ad (ua σ 0 z_)) (by first | (rw [show tF (σ 3) n a = _ from cI_t c13]; done) | (rw [show tF (σ 3) n a = _ from cI_f c13]; done) : (upd (upd (σ 0) 2 (nI (tF (σ 3) n a).2)) 3 (bI (tF (σ 3) n a).1)) = (upd (upd (σ 0) 2 (nI (oF (σ 3) n 1 (oF (σ 3) n 1 a)).2)) 3 (bI (oF (σ 3) n 1 (oF (σ 3) n 1 a)).1)))) dX8_oneOrTwoDigits_31
set_option maxHeartbeats 4000000 in
set_option maxRecDepth 100000 in
theorem k_X8_readMark (l : Launch) (G : GP) (ad : Nat → Nat) (σ : Nat → Nat → Int32) (n : Nat) (a : Pg) (hn : (σ 2 1) = nI n) (hn80 : n ≤ 80) (hp : (σ 0 2) = nI a.2) (hs : (σ 0 3) = bI a.1) (ha : a.2 ≤ n) (hLb : LB (σ 3) n) : CT l G yX8_readMark cX8_readMark 2 (some .int) 6 [.ref (ad 0)] (WRD G ad σ) (some (.int (mV (σ 3) n a))) (WRD G ad (ua σ 0 (upd (upd (σ 0) 2 (nI (mF (σ 3) n a).2)) 3 (bI (mF (σ 3) n a).1)))) := by
  refine x_meth "BetsOnBets$Reader" rfl (by decide +kernel) (by rfl) (Nat.le_of_ble_eq_true rfl) ?_
  intro pP eE sS mM args below meth cC A ls hC hr hkL hK hZ hA hH hl
  have hx := hC.1
  have hb := hC.2.1
  have hl : lv_has ls 2 [(0, .ref (ad 0))] := hl
  refine lv_aload_n hx hb dX8_readMark_0 rfl (lv_at hl 0 rfl) ?_
  refine x_ldcS 3 hC hK (by decide) dX8_readMark_1 ?_
  refine x_callVA (ws' := WRD G ad (ua σ 0 (upd (upd (σ 0) 2 (nI (oF (σ 3) n 3 a).2)) 3 (bI (oF (σ 3) n 3 a).1)))) (As := [.ref (G.2.2.1 3)]) (rest := []) (st' := [.int (oV (σ 3) n 3 a)]) hC hK hZ hA hl.1 hH (k_X8_oneOf l G ad σ 3 n a hn hn80 hp hs ha hLb (by first | assumption | decide)) lk_X8_48 rfl 0 7 rfl rfl rfl ⟨Nat.le_of_ble_eq_true rfl, Nat.le_of_ble_eq_true rfl⟩ ⟨Nat.le_refl _, Nat.le_refl _⟩ (Nat.le_of_ble_eq_true rfl) rfl dX8_readMark_3 (fun H locs hH => ?_)
  refine lv_bipush (v := 10) hx hb dX8_readMark_6 (by decide) ?_
  refine lv_imul hx hb dX8_readMark_8 ?_
  refine lv_istore_n (lv' := [(1, .int ((oV (σ 3) n 3 a) * 10)), (0, .ref (ad 0))]) hx hb dX8_readMark_9 rfl hl (by decide) rfl (fun ls hl => ?_)
  refine lv_iload_n hx hb dX8_readMark_10 rfl (lv_at hl 0 rfl) ?_
  refine lv_aload_n hx hb dX8_readMark_11 rfl (lv_at hl 1 rfl) ?_
  refine x_ldcS 1 hC hK (by decide) dX8_readMark_12 ?_
  refine x_callVA (ws' := WRD G ad (ua σ 0 (upd (upd (σ 0) 2 (nI (oF (σ 3) n 1 (oF (σ 3) n 3 a)).2)) 3 (bI (oF (σ 3) n 1 (oF (σ 3) n 3 a)).1)))) (As := [.ref (G.2.2.1 1)]) (rest := [.int ((oV (σ 3) n 3 a) * 10)]) (st' := [.int (oV (σ 3) n 1 (oF (σ 3) n 3 a)), .int ((oV (σ 3) n 3 a) * 10)]) hC hK hZ hA hl.1 hH (k_X8_oneOf l G ad (ua σ 0 (upd (upd (σ 0) 2 (nI (oF (σ 3) n 3 a).2)) 3 (bI (oF (σ 3) n 3 a).1))) 1 n (oF (σ 3) n 3 a) hn hn80 rfl rfl (by repeat (first | assumption | apply oF_le | apply tF_le | apply mF_le | apply b1_le | apply b2_le | apply b3_le | apply b4_le | apply b5_le | apply b6_le | apply b7_le | apply b8_le | apply fF_le | apply sB_le)) hLb (by first | assumption | decide)) lk_X8_48 rfl 0 7 rfl rfl rfl ⟨Nat.le_of_ble_eq_true rfl, Nat.le_of_ble_eq_true rfl⟩ ⟨Nat.le_refl _, Nat.le_refl _⟩ (Nat.le_of_ble_eq_true rfl) rfl dX8_readMark_14 (fun H locs hH => ?_)
  refine lv_iadd hx hb dX8_readMark_17 ?_
  exact x_iret hC hr hkL hH (by first | rfl | simp) (congrArg (fun z_ : Nat → Int32 => WRD G ad (ua σ 0 z_)) (by first | rfl | simp : (upd (upd (σ 0) 2 (nI (mF (σ 3) n a).2)) 3 (bI (mF (σ 3) n a).1)) = (upd (upd (σ 0) 2 (nI (oF (σ 3) n 1 (oF (σ 3) n 3 a)).2)) 3 (bI (oF (σ 3) n 1 (oF (σ 3) n 3 a)).1)))) dX8_readMark_18
set_option maxHeartbeats 4000000 in
set_option maxRecDepth 100000 in
theorem k_X8_readBet (l : Launch) (G : GP) (ad : Nat → Nat) (σ : Nat → Nat → Int32) (n : Nat) (a : Pg) (hn : (σ 2 1) = nI n) (hn80 : n ≤ 80) (hp : (σ 0 2) = nI a.2) (hs : (σ 0 3) = bI a.1) (ha : a.2 ≤ n) (hLb : LB (σ 3) n) : CT l G yX8_readBet cX8_readBet 1 none 7 [.ref (ad 0)] (WRD G ad σ) none (WRD G ad (ua (ua σ 0 (upd (upd (σ 0) 2 (nI (b8 (σ 3) n a).2)) 3 (bI (b8 (σ 3) n a).1))) 1 (bT (σ 3) n a (σ 1)))) := by
  refine x_meth "BetsOnBets$Reader" rfl (by decide +kernel) (by rfl) (Nat.le_of_ble_eq_true rfl) ?_
  intro pP eE sS mM args below meth cC A ls hC hr hkL hK hZ hA hH hl
  have hx := hC.1
  have hb := hC.2.1
  have hl : lv_has ls 1 [(0, .ref (ad 0))] := hl
  refine lv_aload_n hx hb dX8_readBet_0 rfl (lv_at hl 0 rfl) ?_
  refine gf_X8_20 (v := .ref (ad 1)) hC hK hH 0 rfl rfl dX8_readBet_1 ?_
  refine lv_iconst (v := 0) hx hb dX8_readBet_4 (by decide) ?_
  refine lv_aload_n hx hb dX8_readBet_5 rfl (lv_at hl 0 rfl) ?_
  refine x_ldcS 2 hC hK (by decide) dX8_readBet_6 ?_
  refine x_callVA (ws' := WRD G ad (ua σ 0 (upd (upd (σ 0) 2 (nI (oF (σ 3) n 2 a).2)) 3 (bI (oF (σ 3) n 2 a).1)))) (As := [.ref (G.2.2.1 2)]) (rest := [.int 0, .ref (ad 1)]) (st' := [.int (oV (σ 3) n 2 a), .int 0, .ref (ad 1)]) hC hK hZ hA hl.1 hH (k_X8_oneOf l G ad σ 2 n a hn hn80 hp hs ha hLb (by first | assumption | decide)) lk_X8_48 rfl 0 7 rfl rfl rfl ⟨Nat.le_of_ble_eq_true rfl, Nat.le_of_ble_eq_true rfl⟩ ⟨Nat.le_refl _, Nat.le_refl _⟩ (Nat.le_of_ble_eq_true rfl) rfl dX8_readBet_8 (fun H locs hH => ?_)
  obtain ⟨a1, ea1⟩ : ∃ x_ : Pg, x_ = (oF (σ 3) n 2 a) := ⟨_, rfl⟩
  have la1 : a1.2 ≤ n := by rw [ea1]; exact (oF_le ha)
  have f1 : a1 = b1 (σ 3) n a := ea1
  replace hH : Hx G A (WRD G ad (ua σ 0 (upd (upd (σ 0) 2 (nI a1.2)) 3 (bI a1.1)))) sS.heap H locs := hH.eq (by rw [ea1])
  refine x_callN (ws' := WRD G ad (ua (ua σ 0 (upd (upd (σ 0) 2 (nI a1.2)) 3 (bI a1.1))) 1 (putF (σ 1) 7 0 (oV (σ 3) n 2 a)))) (As := [.ref (ad 1), .int 0, .int (oV (σ 3) n 2 a)]) (rest := []) (st' := []) hC hK hZ hA hl.1 hH (k_X11_put l G 7 (pk ad [1]) (pk (ua σ 0 (upd (upd (σ 0) 2 (nI a1.2)) 3 (bI a1.1))) [1]) 0 (oV (σ 3) n 2 a) (by decide)) lk_X8_55 [1] rfl rfl rfl rfl ⟨Nat.le_of_ble_eq_true rfl, Nat.le_of_ble_eq_true rfl⟩ ⟨Nat.le_refl _, Nat.le_refl _⟩ (Nat.le_of_ble_eq_true rfl) rfl dX8_readBet_11 (fun H locs hH => ?_)
  replace hH : Hx G A (WRD G ad (ua (ua σ 0 (upd (upd (σ 0) 2 (nI a1.2)) 3 (bI a1.1))) 1 (upd (σ 1) 0 (oV (σ 3) n 2 a)))) sS.heap H locs := hH.eq (congrArg (fun z_ : Nat → Int32 => WRD G ad (ua (ua σ 0 (upd (upd (σ 0) 2 (nI a1.2)) 3 (bI a1.1))) 1 z_)) (by exact putF_in rfl (by decide) (by decide) : (putF (σ 1) 7 0 (oV (σ 3) n 2 a)) = (upd (σ 1) 0 (oV (σ 3) n 2 a))))
  obtain ⟨N1, eN1⟩ : ∃ x_ : Nat → Int32, x_ = (upd (σ 1) 0 (oV (σ 3) n 2 a)) := ⟨_, rfl⟩
  replace hH : Hx G A (WRD G ad (ua (ua σ 0 (upd (upd (σ 0) 2 (nI a1.2)) 3 (bI a1.1))) 1 N1)) sS.heap H locs := hH.eq (by rw [eN1])
  refine lv_aload_n hx hb dX8_readBet_14 rfl (lv_at hl 0 rfl) ?_
  refine gf_X8_20 (v := .ref (ad 1)) hC hK hH 0 rfl rfl dX8_readBet_15 ?_
  refine lv_iconst (v := 1) hx hb dX8_readBet_18 (by decide) ?_
  refine lv_aload_n hx hb dX8_readBet_19 rfl (lv_at hl 0 rfl) ?_
  refine x_callVA (ws' := WRD G ad (ua (ua σ 0 (upd (upd (σ 0) 2 (nI (mF (σ 3) n a1).2)) 3 (bI (mF (σ 3) n a1).1))) 1 N1)) (As := []) (rest := [.int 1, .ref (ad 1)]) (st' := [.int (mV (σ 3) n a1), .int 1, .ref (ad 1)]) hC hK hZ hA hl.1 hH (k_X8_readMark l G ad (ua (ua σ 0 (upd (upd (σ 0) 2 (nI a1.2)) 3 (bI a1.1))) 1 N1) n a1 hn hn80 rfl rfl la1 hLb) lk_X8_70 rfl 0 7 rfl rfl rfl ⟨Nat.le_of_ble_eq_true rfl, Nat.le_of_ble_eq_true rfl⟩ ⟨Nat.le_refl _, Nat.le_refl _⟩ (Nat.le_of_ble_eq_true rfl) rfl dX8_readBet_20 (fun H locs hH => ?_)
  obtain ⟨a2, ea2⟩ : ∃ x_ : Pg, x_ = (mF (σ 3) n a1) := ⟨_, rfl⟩
  have la2 : a2.2 ≤ n := by rw [ea2]; exact (mF_le la1)
  have f2 : a2 = b2 (σ 3) n a := by rw [ea2, f1]; rfl
  replace hH : Hx G A (WRD G ad (ua (ua σ 0 (upd (upd (σ 0) 2 (nI a2.2)) 3 (bI a2.1))) 1 N1)) sS.heap H locs := hH.eq (by rw [ea2])
  refine x_callN (ws' := WRD G ad (ua (ua σ 0 (upd (upd (σ 0) 2 (nI a2.2)) 3 (bI a2.1))) 1 (putF N1 7 1 (mV (σ 3) n a1)))) (As := [.ref (ad 1), .int 1, .int (mV (σ 3) n a1)]) (rest := []) (st' := []) hC hK hZ hA hl.1 hH (k_X11_put l G 7 (pk ad [1]) (pk (ua (ua σ 0 (upd (upd (σ 0) 2 (nI a2.2)) 3 (bI a2.1))) 1 N1) [1]) 1 (mV (σ 3) n a1) (by decide)) lk_X8_55 [1] rfl rfl rfl rfl ⟨Nat.le_of_ble_eq_true rfl, Nat.le_of_ble_eq_true rfl⟩ ⟨Nat.le_refl _, Nat.le_refl _⟩ (Nat.le_of_ble_eq_true rfl) rfl dX8_readBet_23 (fun H locs hH => ?_)
  replace hH : Hx G A (WRD G ad (ua (ua σ 0 (upd (upd (σ 0) 2 (nI a2.2)) 3 (bI a2.1))) 1 (upd N1 1 (mV (σ 3) n a1)))) sS.heap H locs := hH.eq (congrArg (fun z_ : Nat → Int32 => WRD G ad (ua (ua σ 0 (upd (upd (σ 0) 2 (nI a2.2)) 3 (bI a2.1))) 1 z_)) (by exact putF_in rfl (by decide) (by decide) : (putF N1 7 1 (mV (σ 3) n a1)) = (upd N1 1 (mV (σ 3) n a1))))
  obtain ⟨N2, eN2⟩ : ∃ x_ : Nat → Int32, x_ = (upd N1 1 (mV (σ 3) n a1)) := ⟨_, rfl⟩
  replace hH : Hx G A (WRD G ad (ua (ua σ 0 (upd (upd (σ 0) 2 (nI a2.2)) 3 (bI a2.1))) 1 N2)) sS.heap H locs := hH.eq (by rw [eN2])
  refine lv_aload_n hx hb dX8_readBet_26 rfl (lv_at hl 0 rfl) ?_
  refine gf_X8_20 (v := .ref (ad 1)) hC hK hH 0 rfl rfl dX8_readBet_27 ?_
  refine lv_iconst (v := 2) hx hb dX8_readBet_30 (by decide) ?_
  refine lv_aload_n hx hb dX8_readBet_31 rfl (lv_at hl 0 rfl) ?_
  refine x_callVA (ws' := WRD G ad (ua (ua σ 0 (upd (upd (σ 0) 2 (nI (mF (σ 3) n a2).2)) 3 (bI (mF (σ 3) n a2).1))) 1 N2)) (As := []) (rest := [.int 2, .ref (ad 1)]) (st' := [.int (mV (σ 3) n a2), .int 2, .ref (ad 1)]) hC hK hZ hA hl.1 hH (k_X8_readMark l G ad (ua (ua σ 0 (upd (upd (σ 0) 2 (nI a2.2)) 3 (bI a2.1))) 1 N2) n a2 hn hn80 rfl rfl la2 hLb) lk_X8_70 rfl 0 7 rfl rfl rfl ⟨Nat.le_of_ble_eq_true rfl, Nat.le_of_ble_eq_true rfl⟩ ⟨Nat.le_refl _, Nat.le_refl _⟩ (Nat.le_of_ble_eq_true rfl) rfl dX8_readBet_32 (fun H locs hH => ?_)
  obtain ⟨a3, ea3⟩ : ∃ x_ : Pg, x_ = (mF (σ 3) n a2) := ⟨_, rfl⟩
  have la3 : a3.2 ≤ n := by rw [ea3]; exact (mF_le la2)
  have f3 : a3 = b3 (σ 3) n a := by rw [ea3, f2]; rfl
  replace hH : Hx G A (WRD G ad (ua (ua σ 0 (upd (upd (σ 0) 2 (nI a3.2)) 3 (bI a3.1))) 1 N2)) sS.heap H locs := hH.eq (by rw [ea3])
  refine x_callN (ws' := WRD G ad (ua (ua σ 0 (upd (upd (σ 0) 2 (nI a3.2)) 3 (bI a3.1))) 1 (putF N2 7 2 (mV (σ 3) n a2)))) (As := [.ref (ad 1), .int 2, .int (mV (σ 3) n a2)]) (rest := []) (st' := []) hC hK hZ hA hl.1 hH (k_X11_put l G 7 (pk ad [1]) (pk (ua (ua σ 0 (upd (upd (σ 0) 2 (nI a3.2)) 3 (bI a3.1))) 1 N2) [1]) 2 (mV (σ 3) n a2) (by decide)) lk_X8_55 [1] rfl rfl rfl rfl ⟨Nat.le_of_ble_eq_true rfl, Nat.le_of_ble_eq_true rfl⟩ ⟨Nat.le_refl _, Nat.le_refl _⟩ (Nat.le_of_ble_eq_true rfl) rfl dX8_readBet_35 (fun H locs hH => ?_)
  replace hH : Hx G A (WRD G ad (ua (ua σ 0 (upd (upd (σ 0) 2 (nI a3.2)) 3 (bI a3.1))) 1 (upd N2 2 (mV (σ 3) n a2)))) sS.heap H locs := hH.eq (congrArg (fun z_ : Nat → Int32 => WRD G ad (ua (ua σ 0 (upd (upd (σ 0) 2 (nI a3.2)) 3 (bI a3.1))) 1 z_)) (by exact putF_in rfl (by decide) (by decide) : (putF N2 7 2 (mV (σ 3) n a2)) = (upd N2 2 (mV (σ 3) n a2))))
  obtain ⟨N3, eN3⟩ : ∃ x_ : Nat → Int32, x_ = (upd N2 2 (mV (σ 3) n a2)) := ⟨_, rfl⟩
  replace hH : Hx G A (WRD G ad (ua (ua σ 0 (upd (upd (σ 0) 2 (nI a3.2)) 3 (bI a3.1))) 1 N3)) sS.heap H locs := hH.eq (by rw [eN3])
  refine lv_aload_n hx hb dX8_readBet_38 rfl (lv_at hl 0 rfl) ?_
  refine gf_X8_20 (v := .ref (ad 1)) hC hK hH 0 rfl rfl dX8_readBet_39 ?_
  refine lv_iconst (v := 3) hx hb dX8_readBet_42 (by decide) ?_
  refine lv_aload_n hx hb dX8_readBet_43 rfl (lv_at hl 0 rfl) ?_
  refine x_callVA (ws' := WRD G ad (ua (ua σ 0 (upd (upd (σ 0) 2 (nI (tF (σ 3) n a3).2)) 3 (bI (tF (σ 3) n a3).1))) 1 N3)) (As := []) (rest := [.int 3, .ref (ad 1)]) (st' := [.int (tV (σ 3) n a3), .int 3, .ref (ad 1)]) hC hK hZ hA hl.1 hH (k_X8_oneOrTwoDigits l G ad (ua (ua σ 0 (upd (upd (σ 0) 2 (nI a3.2)) 3 (bI a3.1))) 1 N3) n a3 hn hn80 rfl rfl la3 hLb) lk_X8_52 rfl 0 7 rfl rfl rfl ⟨Nat.le_of_ble_eq_true rfl, Nat.le_of_ble_eq_true rfl⟩ ⟨Nat.le_refl _, Nat.le_refl _⟩ (Nat.le_of_ble_eq_true rfl) rfl dX8_readBet_44 (fun H locs hH => ?_)
  obtain ⟨a4, ea4⟩ : ∃ x_ : Pg, x_ = (tF (σ 3) n a3) := ⟨_, rfl⟩
  have la4 : a4.2 ≤ n := by rw [ea4]; exact (tF_le la3)
  have f4 : a4 = b4 (σ 3) n a := by rw [ea4, f3]; rfl
  replace hH : Hx G A (WRD G ad (ua (ua σ 0 (upd (upd (σ 0) 2 (nI a4.2)) 3 (bI a4.1))) 1 N3)) sS.heap H locs := hH.eq (by rw [ea4])
  refine x_callN (ws' := WRD G ad (ua (ua σ 0 (upd (upd (σ 0) 2 (nI a4.2)) 3 (bI a4.1))) 1 (putF N3 7 3 (tV (σ 3) n a3)))) (As := [.ref (ad 1), .int 3, .int (tV (σ 3) n a3)]) (rest := []) (st' := []) hC hK hZ hA hl.1 hH (k_X11_put l G 7 (pk ad [1]) (pk (ua (ua σ 0 (upd (upd (σ 0) 2 (nI a4.2)) 3 (bI a4.1))) 1 N3) [1]) 3 (tV (σ 3) n a3) (by decide)) lk_X8_55 [1] rfl rfl rfl rfl ⟨Nat.le_of_ble_eq_true rfl, Nat.le_of_ble_eq_true rfl⟩ ⟨Nat.le_refl _, Nat.le_refl _⟩ (Nat.le_of_ble_eq_true rfl) rfl dX8_readBet_47 (fun H locs hH => ?_)
  replace hH : Hx G A (WRD G ad (ua (ua σ 0 (upd (upd (σ 0) 2 (nI a4.2)) 3 (bI a4.1))) 1 (upd N3 3 (tV (σ 3) n a3)))) sS.heap H locs := hH.eq (congrArg (fun z_ : Nat → Int32 => WRD G ad (ua (ua σ 0 (upd (upd (σ 0) 2 (nI a4.2)) 3 (bI a4.1))) 1 z_)) (by exact putF_in rfl (by decide) (by decide) : (putF N3 7 3 (tV (σ 3) n a3)) = (upd N3 3 (tV (σ 3) n a3))))
  obtain ⟨N4, eN4⟩ : ∃ x_ : Nat → Int32, x_ = (upd N3 3 (tV (σ 3) n a3)) := ⟨_, rfl⟩
  replace hH : Hx G A (WRD G ad (ua (ua σ 0 (upd (upd (σ 0) 2 (nI a4.2)) 3 (bI a4.1))) 1 N4)) sS.heap H locs := hH.eq (by rw [eN4])
  refine lv_aload_n hx hb dX8_readBet_50 rfl (lv_at hl 0 rfl) ?_
  refine x_ldcS 4 hC hK (by decide) dX8_readBet_51 ?_
  refine x_callVA (ws' := WRD G ad (ua (ua σ 0 (upd (upd (σ 0) 2 (nI (oF (σ 3) n 4 a4).2)) 3 (bI (oF (σ 3) n 4 a4).1))) 1 N4)) (As := [.ref (G.2.2.1 4)]) (rest := []) (st' := [.int (oV (σ 3) n 4 a4)]) hC hK hZ hA hl.1 hH (k_X8_oneOf l G ad (ua (ua σ 0 (upd (upd (σ 0) 2 (nI a4.2)) 3 (bI a4.1))) 1 N4) 4 n a4 hn hn80 rfl rfl la4 hLb (by first | assumption | decide)) lk_X8_48 rfl 0 7 rfl rfl rfl ⟨Nat.le_of_ble_eq_true rfl, Nat.le_of_ble_eq_true rfl⟩ ⟨Nat.le_refl _, Nat.le_refl _⟩ (Nat.le_of_ble_eq_true rfl) rfl dX8_readBet_53 (fun H locs hH => ?_)
  obtain ⟨a5, ea5⟩ : ∃ x_ : Pg, x_ = (oF (σ 3) n 4 a4) := ⟨_, rfl⟩
  have la5 : a5.2 ≤ n := by rw [ea5]; exact (oF_le la4)
  have f5 : a5 = b5 (σ 3) n a := by rw [ea5, f4]; rfl
  replace hH : Hx G A (WRD G ad (ua (ua σ 0 (upd (upd (σ 0) 2 (nI a5.2)) 3 (bI a5.1))) 1 N4)) sS.heap H locs := hH.eq (by rw [ea5])
  refine lv_pop hx hb dX8_readBet_56 rfl ?_
  refine lv_aload_n hx hb dX8_readBet_57 rfl (lv_at hl 0 rfl) ?_
  refine gf_X8_20 (v := .ref (ad 1)) hC hK hH 0 rfl rfl dX8_readBet_58 ?_
  refine lv_iconst (v := 4) hx hb dX8_readBet_61 (by decide) ?_
  refine lv_aload_n hx hb dX8_readBet_62 rfl (lv_at hl 0 rfl) ?_
  refine x_ldcS 1 hC hK (by decide) dX8_readBet_63 ?_
  refine x_callVA (ws' := WRD G ad (ua (ua σ 0 (upd (upd (σ 0) 2 (nI (oF (σ 3) n 1 a5).2)) 3 (bI (oF (σ 3) n 1 a5).1))) 1 N4)) (As := [.ref (G.2.2.1 1)]) (rest := [.int 4, .ref (ad 1)]) (st' := [.int (oV (σ 3) n 1 a5), .int 4, .ref (ad 1)]) hC hK hZ hA hl.1 hH (k_X8_oneOf l G ad (ua (ua σ 0 (upd (upd (σ 0) 2 (nI a5.2)) 3 (bI a5.1))) 1 N4) 1 n a5 hn hn80 rfl rfl la5 hLb (by first | assumption | decide)) lk_X8_48 rfl 0 7 rfl rfl rfl ⟨Nat.le_of_ble_eq_true rfl, Nat.le_of_ble_eq_true rfl⟩ ⟨Nat.le_refl _, Nat.le_refl _⟩ (Nat.le_of_ble_eq_true rfl) rfl dX8_readBet_65 (fun H locs hH => ?_)
  obtain ⟨a6, ea6⟩ : ∃ x_ : Pg, x_ = (oF (σ 3) n 1 a5) := ⟨_, rfl⟩
  have la6 : a6.2 ≤ n := by rw [ea6]; exact (oF_le la5)
  have f6 : a6 = b6 (σ 3) n a := by rw [ea6, f5]; rfl
  replace hH : Hx G A (WRD G ad (ua (ua σ 0 (upd (upd (σ 0) 2 (nI a6.2)) 3 (bI a6.1))) 1 N4)) sS.heap H locs := hH.eq (by rw [ea6])
  refine x_callN (ws' := WRD G ad (ua (ua σ 0 (upd (upd (σ 0) 2 (nI a6.2)) 3 (bI a6.1))) 1 (putF N4 7 4 (oV (σ 3) n 1 a5)))) (As := [.ref (ad 1), .int 4, .int (oV (σ 3) n 1 a5)]) (rest := []) (st' := []) hC hK hZ hA hl.1 hH (k_X11_put l G 7 (pk ad [1]) (pk (ua (ua σ 0 (upd (upd (σ 0) 2 (nI a6.2)) 3 (bI a6.1))) 1 N4) [1]) 4 (oV (σ 3) n 1 a5) (by decide)) lk_X8_55 [1] rfl rfl rfl rfl ⟨Nat.le_of_ble_eq_true rfl, Nat.le_of_ble_eq_true rfl⟩ ⟨Nat.le_refl _, Nat.le_refl _⟩ (Nat.le_of_ble_eq_true rfl) rfl dX8_readBet_68 (fun H locs hH => ?_)
  replace hH : Hx G A (WRD G ad (ua (ua σ 0 (upd (upd (σ 0) 2 (nI a6.2)) 3 (bI a6.1))) 1 (upd N4 4 (oV (σ 3) n 1 a5)))) sS.heap H locs := hH.eq (congrArg (fun z_ : Nat → Int32 => WRD G ad (ua (ua σ 0 (upd (upd (σ 0) 2 (nI a6.2)) 3 (bI a6.1))) 1 z_)) (by exact putF_in rfl (by decide) (by decide) : (putF N4 7 4 (oV (σ 3) n 1 a5)) = (upd N4 4 (oV (σ 3) n 1 a5))))
  obtain ⟨N5, eN5⟩ : ∃ x_ : Nat → Int32, x_ = (upd N4 4 (oV (σ 3) n 1 a5)) := ⟨_, rfl⟩
  replace hH : Hx G A (WRD G ad (ua (ua σ 0 (upd (upd (σ 0) 2 (nI a6.2)) 3 (bI a6.1))) 1 N5)) sS.heap H locs := hH.eq (by rw [eN5])
  refine lv_aload_n hx hb dX8_readBet_71 rfl (lv_at hl 0 rfl) ?_
  refine gf_X8_20 (v := .ref (ad 1)) hC hK hH 0 rfl rfl dX8_readBet_72 ?_
  refine lv_iconst (v := 5) hx hb dX8_readBet_75 (by decide) ?_
  refine lv_aload_n hx hb dX8_readBet_76 rfl (lv_at hl 0 rfl) ?_
  refine x_ldcS 1 hC hK (by decide) dX8_readBet_77 ?_
  refine x_callVA (ws' := WRD G ad (ua (ua σ 0 (upd (upd (σ 0) 2 (nI (oF (σ 3) n 1 a6).2)) 3 (bI (oF (σ 3) n 1 a6).1))) 1 N5)) (As := [.ref (G.2.2.1 1)]) (rest := [.int 5, .ref (ad 1)]) (st' := [.int (oV (σ 3) n 1 a6), .int 5, .ref (ad 1)]) hC hK hZ hA hl.1 hH (k_X8_oneOf l G ad (ua (ua σ 0 (upd (upd (σ 0) 2 (nI a6.2)) 3 (bI a6.1))) 1 N5) 1 n a6 hn hn80 rfl rfl la6 hLb (by first | assumption | decide)) lk_X8_48 rfl 0 7 rfl rfl rfl ⟨Nat.le_of_ble_eq_true rfl, Nat.le_of_ble_eq_true rfl⟩ ⟨Nat.le_refl _, Nat.le_refl _⟩ (Nat.le_of_ble_eq_true rfl) rfl dX8_readBet_79 (fun H locs hH => ?_)
  obtain ⟨a7, ea7⟩ : ∃ x_ : Pg, x_ = (oF (σ 3) n 1 a6) := ⟨_, rfl⟩
  have la7 : a7.2 ≤ n := by rw [ea7]; exact (oF_le la6)
  have f7 : a7 = b7 (σ 3) n a := by rw [ea7, f6]; rfl
  replace hH : Hx G A (WRD G ad (ua (ua σ 0 (upd (upd (σ 0) 2 (nI a7.2)) 3 (bI a7.1))) 1 N5)) sS.heap H locs := hH.eq (by rw [ea7])
  refine x_callN (ws' := WRD G ad (ua (ua σ 0 (upd (upd (σ 0) 2 (nI a7.2)) 3 (bI a7.1))) 1 (putF N5 7 5 (oV (σ 3) n 1 a6)))) (As := [.ref (ad 1), .int 5, .int (oV (σ 3) n 1 a6)]) (rest := []) (st' := []) hC hK hZ hA hl.1 hH (k_X11_put l G 7 (pk ad [1]) (pk (ua (ua σ 0 (upd (upd (σ 0) 2 (nI a7.2)) 3 (bI a7.1))) 1 N5) [1]) 5 (oV (σ 3) n 1 a6) (by decide)) lk_X8_55 [1] rfl rfl rfl rfl ⟨Nat.le_of_ble_eq_true rfl, Nat.le_of_ble_eq_true rfl⟩ ⟨Nat.le_refl _, Nat.le_refl _⟩ (Nat.le_of_ble_eq_true rfl) rfl dX8_readBet_82 (fun H locs hH => ?_)
  replace hH : Hx G A (WRD G ad (ua (ua σ 0 (upd (upd (σ 0) 2 (nI a7.2)) 3 (bI a7.1))) 1 (upd N5 5 (oV (σ 3) n 1 a6)))) sS.heap H locs := hH.eq (congrArg (fun z_ : Nat → Int32 => WRD G ad (ua (ua σ 0 (upd (upd (σ 0) 2 (nI a7.2)) 3 (bI a7.1))) 1 z_)) (by exact putF_in rfl (by decide) (by decide) : (putF N5 7 5 (oV (σ 3) n 1 a6)) = (upd N5 5 (oV (σ 3) n 1 a6))))
  obtain ⟨N6, eN6⟩ : ∃ x_ : Nat → Int32, x_ = (upd N5 5 (oV (σ 3) n 1 a6)) := ⟨_, rfl⟩
  replace hH : Hx G A (WRD G ad (ua (ua σ 0 (upd (upd (σ 0) 2 (nI a7.2)) 3 (bI a7.1))) 1 N6)) sS.heap H locs := hH.eq (by rw [eN6])
  refine lv_aload_n hx hb dX8_readBet_85 rfl (lv_at hl 0 rfl) ?_
  refine gf_X8_20 (v := .ref (ad 1)) hC hK hH 0 rfl rfl dX8_readBet_86 ?_
  refine lv_bipush (v := 6) hx hb dX8_readBet_89 (by decide) ?_
  refine lv_aload_n hx hb dX8_readBet_91 rfl (lv_at hl 0 rfl) ?_
  refine x_ldcS 1 hC hK (by decide) dX8_readBet_92 ?_
  refine x_callVA (ws' := WRD G ad (ua (ua σ 0 (upd (upd (σ 0) 2 (nI (oF (σ 3) n 1 a7).2)) 3 (bI (oF (σ 3) n 1 a7).1))) 1 N6)) (As := [.ref (G.2.2.1 1)]) (rest := [.int 6, .ref (ad 1)]) (st' := [.int (oV (σ 3) n 1 a7), .int 6, .ref (ad 1)]) hC hK hZ hA hl.1 hH (k_X8_oneOf l G ad (ua (ua σ 0 (upd (upd (σ 0) 2 (nI a7.2)) 3 (bI a7.1))) 1 N6) 1 n a7 hn hn80 rfl rfl la7 hLb (by first | assumption | decide)) lk_X8_48 rfl 0 7 rfl rfl rfl ⟨Nat.le_of_ble_eq_true rfl, Nat.le_of_ble_eq_true rfl⟩ ⟨Nat.le_refl _, Nat.le_refl _⟩ (Nat.le_of_ble_eq_true rfl) rfl dX8_readBet_94 (fun H locs hH => ?_)
  obtain ⟨a8, ea8⟩ : ∃ x_ : Pg, x_ = (oF (σ 3) n 1 a7) := ⟨_, rfl⟩
  have la8 : a8.2 ≤ n := by rw [ea8]; exact (oF_le la7)
  have f8 : a8 = b8 (σ 3) n a := by rw [ea8, f7]; rfl
  replace hH : Hx G A (WRD G ad (ua (ua σ 0 (upd (upd (σ 0) 2 (nI a8.2)) 3 (bI a8.1))) 1 N6)) sS.heap H locs := hH.eq (by rw [ea8])
  refine x_callN (ws' := WRD G ad (ua (ua σ 0 (upd (upd (σ 0) 2 (nI a8.2)) 3 (bI a8.1))) 1 (putF N6 7 6 (oV (σ 3) n 1 a7)))) (As := [.ref (ad 1), .int 6, .int (oV (σ 3) n 1 a7)]) (rest := []) (st' := []) hC hK hZ hA hl.1 hH (k_X11_put l G 7 (pk ad [1]) (pk (ua (ua σ 0 (upd (upd (σ 0) 2 (nI a8.2)) 3 (bI a8.1))) 1 N6) [1]) 6 (oV (σ 3) n 1 a7) (by decide)) lk_X8_55 [1] rfl rfl rfl rfl ⟨Nat.le_of_ble_eq_true rfl, Nat.le_of_ble_eq_true rfl⟩ ⟨Nat.le_refl _, Nat.le_refl _⟩ (Nat.le_of_ble_eq_true rfl) rfl dX8_readBet_97 (fun H locs hH => ?_)
  replace hH : Hx G A (WRD G ad (ua (ua σ 0 (upd (upd (σ 0) 2 (nI a8.2)) 3 (bI a8.1))) 1 (upd N6 6 (oV (σ 3) n 1 a7)))) sS.heap H locs := hH.eq (congrArg (fun z_ : Nat → Int32 => WRD G ad (ua (ua σ 0 (upd (upd (σ 0) 2 (nI a8.2)) 3 (bI a8.1))) 1 z_)) (by exact putF_in rfl (by decide) (by decide) : (putF N6 7 6 (oV (σ 3) n 1 a7)) = (upd N6 6 (oV (σ 3) n 1 a7))))
  obtain ⟨N7, eN7⟩ : ∃ x_ : Nat → Int32, x_ = (upd N6 6 (oV (σ 3) n 1 a7)) := ⟨_, rfl⟩
  replace hH : Hx G A (WRD G ad (ua (ua σ 0 (upd (upd (σ 0) 2 (nI a8.2)) 3 (bI a8.1))) 1 N7)) sS.heap H locs := hH.eq (by rw [eN7])
  exact x_vret hC hr hkL hH ((congrArg (fun z_ : Nat → Int32 => WRD G ad (ua (ua σ 0 z_) 1 (bT (σ 3) n a (σ 1)))) (by rw [f8] : (upd (upd (σ 0) 2 (nI (b8 (σ 3) n a).2)) 3 (bI (b8 (σ 3) n a).1)) = (upd (upd (σ 0) 2 (nI a8.2)) 3 (bI a8.1)))).trans (congrArg (fun z_ : Nat → Int32 => WRD G ad (ua (ua σ 0 (upd (upd (σ 0) 2 (nI a8.2)) 3 (bI a8.1))) 1 z_)) (by rw [eN7, eN6, eN5, eN4, eN3, eN2, eN1, f1, f2, f3, f5, f6, f7]; rfl : (bT (σ 3) n a (σ 1)) = N7))) dX8_readBet_100
set_option maxHeartbeats 4000000 in
set_option maxRecDepth 100000 in
theorem k_X8_readStatement (l : Launch) (G : GP) (ad : Nat → Nat) (σ : Nat → Nat → Int32) (n : Nat) (a : Pg) (hn : (σ 2 1) = nI n) (hn80 : n ≤ 80) (hp : (σ 0 2) = nI a.2) (hs : (σ 0 3) = bI a.1) (ha : a.2 ≤ n) (hLb : LB (σ 3) n) : CT l G yX8_readStatement cX8_readStatement 2 (some .int) 8 [.ref (ad 0)] (WRD G ad σ) (some (.int (oV (σ 3) n 0 a))) (WRD G ad (ua (ua σ 0 (upd (upd (σ 0) 2 (nI (sF (σ 3) n a).2)) 3 (bI (sF (σ 3) n a).1))) 1 (sT (σ 3) n a (σ 1)))) := by
  refine x_meth "BetsOnBets$Reader" rfl (by decide +kernel) (by rfl) (Nat.le_of_ble_eq_true rfl) ?_
  intro pP eE sS mM args below meth cC A ls hC hr hkL hK hZ hA hH hl
  have hx := hC.1
  have hb := hC.2.1
  have hl : lv_has ls 2 [(0, .ref (ad 0))] := hl
  refine lv_aload_n hx hb dX8_readStatement_0 rfl (lv_at hl 0 rfl) ?_
  refine x_ldcS 0 hC hK (by decide) dX8_readStatement_1 ?_
  refine x_callVA (ws' := WRD G ad (ua σ 0 (upd (upd (σ 0) 2 (nI (oF (σ 3) n 0 a).2)) 3 (bI (oF (σ 3) n 0 a).1)))) (As := [.ref (G.2.2.1 0)]) (rest := []) (st' := [.int (oV (σ 3) n 0 a)]) hC hK hZ hA hl.1 hH (k_X8_oneOf l G ad σ 0 n a hn hn80 hp hs ha hLb (by first | assumption | decide)) lk_X8_48 rfl 0 7 rfl rfl rfl ⟨Nat.le_of_ble_eq_true rfl, Nat.le_of_ble_eq_true rfl⟩ ⟨Nat.le_refl _, Nat.le_refl _⟩ (Nat.le_of_ble_eq_true rfl) rfl dX8_readStatement_3 (fun H locs hH => ?_)
  obtain ⟨c1, ec1⟩ : ∃ x_ : Pg, x_ = (oF (σ 3) n 0 a) := ⟨_, rfl⟩
  have lc1 : c1.2 ≤ n := by rw [ec1]; exact (oF_le ha)
  replace hH : Hx G A (WRD G ad (ua σ 0 (upd (upd (σ 0) 2 (nI c1.2)) 3 (bI c1.1)))) sS.heap H locs := hH.eq (by rw [ec1])
  refine lv_istore_n (lv' := [(1, .int (oV (σ 3) n 0 a)), (0, .ref (ad 0))]) hx hb dX8_readStatement_6 rfl hl (by decide) rfl (fun ls hl => ?_)
  refine lv_iload_n hx hb dX8_readStatement_7 rfl (lv_at hl 0 rfl) ?_
  refine lv_if_ne (tgt := 26) hx hb dX8_readStatement_8 (by decide) (fun c8 => ?_) (fun c8 => ?_)
  · refine lv_iload_n hx hb dX8_readStatement_26 rfl (lv_at hl 0 rfl) ?_
    refine lv_iconst (v := 1) hx hb dX8_readStatement_27 (by decide) ?_
    refine lv_icmp_ne (tgt := 38) hx hb dX8_readStatement_28 (by decide) (fun c28 => ?_) (fun c28 => ?_)
    · refine lv_aload_n hx hb dX8_readStatement_38 rfl (lv_at hl 1 rfl) ?_
      refine gf_X8_20 (v := .ref (ad 1)) hC hK hH 0 rfl rfl dX8_readStatement_39 ?_
      refine lv_iconst (v := 0) hx hb dX8_readStatement_42 (by decide) ?_
      refine lv_aload_n hx hb dX8_readStatement_43 rfl (lv_at hl 1 rfl) ?_
      refine x_ldcS 1 hC hK (by decide) dX8_readStatement_44 ?_
      refine x_callVA (ws' := WRD G ad (ua σ 0 (upd (upd (σ 0) 2 (nI (oF (σ 3) n 1 c1).2)) 3 (bI (oF (σ 3) n 1 c1).1)))) (As := [.ref (G.2.2.1 1)]) (rest := [.int 0, .ref (ad 1)]) (st' := [.int (oV (σ 3) n 1 c1), .int 0, .ref (ad 1)]) hC hK hZ hA hl.1 hH (k_X8_oneOf l G ad (ua σ 0 (upd (upd (σ 0) 2 (nI c1.2)) 3 (bI c1.1))) 1 n c1 hn hn80 rfl rfl lc1 hLb (by first | assumption | decide)) lk_X8_48 rfl 0 7 rfl rfl rfl ⟨Nat.le_of_ble_eq_true rfl, Nat.le_of_ble_eq_true rfl⟩ ⟨Nat.le_refl _, Nat.le_refl _⟩ (Nat.le_of_ble_eq_true rfl) rfl dX8_readStatement_46 (fun H locs hH => ?_)
      obtain ⟨d3, ed3⟩ : ∃ x_ : Pg, x_ = (oF (σ 3) n 1 c1) := ⟨_, rfl⟩
      have ld3 : d3.2 ≤ n := by rw [ed3]; exact (oF_le lc1)
      replace hH : Hx G A (WRD G ad (ua σ 0 (upd (upd (σ 0) 2 (nI d3.2)) 3 (bI d3.1)))) sS.heap H locs := hH.eq (by rw [ed3])
      refine x_callN (ws' := WRD G ad (ua (ua σ 0 (upd (upd (σ 0) 2 (nI d3.2)) 3 (bI d3.1))) 1 (putF (σ 1) 7 0 (oV (σ 3) n 1 c1)))) (As := [.ref (ad 1), .int 0, .int (oV (σ 3) n 1 c1)]) (rest := []) (st' := []) hC hK hZ hA hl.1 hH (k_X11_put l G 7 (pk ad [1]) (pk (ua σ 0 (upd (upd (σ 0) 2 (nI d3.2)) 3 (bI d3.1))) [1]) 0 (oV (σ 3) n 1 c1) (by decide)) lk_X8_55 [1] rfl rfl rfl rfl ⟨Nat.le_of_ble_eq_true rfl, Nat.le_of_ble_eq_true rfl⟩ ⟨Nat.le_refl _, Nat.le_refl _⟩ (Nat.le_of_ble_eq_true rfl) rfl dX8_readStatement_49 (fun H locs hH => ?_)
      replace hH : Hx G A (WRD G ad (ua (ua σ 0 (upd (upd (σ 0) 2 (nI d3.2)) 3 (bI d3.1))) 1 (upd (σ 1) 0 (oV (σ 3) n 1 c1)))) sS.heap H locs := hH.eq (congrArg (fun z_ : Nat → Int32 => WRD G ad (ua (ua σ 0 (upd (upd (σ 0) 2 (nI d3.2)) 3 (bI d3.1))) 1 z_)) (by exact putF_in rfl (by decide) (by decide) : (putF (σ 1) 7 0 (oV (σ 3) n 1 c1)) = (upd (σ 1) 0 (oV (σ 3) n 1 c1))))
      refine lv_aload_n hx hb dX8_readStatement_52 rfl (lv_at hl 1 rfl) ?_
      refine x_ldcS 4 hC hK (by decide) dX8_readStatement_53 ?_
      refine x_callVA (ws' := WRD G ad (ua (ua σ 0 (upd (upd (σ 0) 2 (nI (oF (σ 3) n 4 d3).2)) 3 (bI (oF (σ 3) n 4 d3).1))) 1 (upd (σ 1) 0 (oV (σ 3) n 1 c1)))) (As := [.ref (G.2.2.1 4)]) (rest := []) (st' := [.int (oV (σ 3) n 4 d3)]) hC hK hZ hA hl.1 hH (k_X8_oneOf l G ad (ua (ua σ 0 (upd (upd (σ 0) 2 (nI d3.2)) 3 (bI d3.1))) 1 (upd (σ 1) 0 (oV (σ 3) n 1 c1))) 4 n d3 hn hn80 rfl rfl ld3 hLb (by first | assumption | decide)) lk_X8_48 rfl 0 7 rfl rfl rfl ⟨Nat.le_of_ble_eq_true rfl, Nat.le_of_ble_eq_true rfl⟩ ⟨Nat.le_refl _, Nat.le_refl _⟩ (Nat.le_of_ble_eq_true rfl) rfl dX8_readStatement_55 (fun H locs hH => ?_)
      obtain ⟨d4, ed4⟩ : ∃ x_ : Pg, x_ = (oF (σ 3) n 4 d3) := ⟨_, rfl⟩
      have ld4 : d4.2 ≤ n := by rw [ed4]; exact (oF_le ld3)
      replace hH : Hx G A (WRD G ad (ua (ua σ 0 (upd (upd (σ 0) 2 (nI d4.2)) 3 (bI d4.1))) 1 (upd (σ 1) 0 (oV (σ 3) n 1 c1)))) sS.heap H locs := hH.eq (by rw [ed4])
      refine lv_pop hx hb dX8_readStatement_58 rfl ?_
      refine lv_aload_n hx hb dX8_readStatement_59 rfl (lv_at hl 1 rfl) ?_
      refine gf_X8_20 (v := .ref (ad 1)) hC hK hH 0 rfl rfl dX8_readStatement_60 ?_
      refine lv_iconst (v := 1) hx hb dX8_readStatement_63 (by decide) ?_
      refine lv_aload_n hx hb dX8_readStatement_64 rfl (lv_at hl 1 rfl) ?_
      refine x_callVA (ws' := WRD G ad (ua (ua σ 0 (upd (upd (σ 0) 2 (nI (tF (σ 3) n d4).2)) 3 (bI (tF (σ 3) n d4).1))) 1 (upd (σ 1) 0 (oV (σ 3) n 1 c1)))) (As := []) (rest := [.int 1, .ref (ad 1)]) (st' := [.int (tV (σ 3) n d4), .int 1, .ref (ad 1)]) hC hK hZ hA hl.1 hH (k_X8_oneOrTwoDigits l G ad (ua (ua σ 0 (upd (upd (σ 0) 2 (nI d4.2)) 3 (bI d4.1))) 1 (upd (σ 1) 0 (oV (σ 3) n 1 c1))) n d4 hn hn80 rfl rfl ld4 hLb) lk_X8_52 rfl 0 7 rfl rfl rfl ⟨Nat.le_of_ble_eq_true rfl, Nat.le_of_ble_eq_true rfl⟩ ⟨Nat.le_refl _, Nat.le_refl _⟩ (Nat.le_of_ble_eq_true rfl) rfl dX8_readStatement_65 (fun H locs hH => ?_)
      obtain ⟨d1, ed1⟩ : ∃ x_ : Pg, x_ = (tF (σ 3) n d4) := ⟨_, rfl⟩
      have ld1 : d1.2 ≤ n := by rw [ed1]; exact (tF_le ld4)
      replace hH : Hx G A (WRD G ad (ua (ua σ 0 (upd (upd (σ 0) 2 (nI d1.2)) 3 (bI d1.1))) 1 (upd (σ 1) 0 (oV (σ 3) n 1 c1)))) sS.heap H locs := hH.eq (by rw [ed1])
      refine x_callN (ws' := WRD G ad (ua (ua σ 0 (upd (upd (σ 0) 2 (nI d1.2)) 3 (bI d1.1))) 1 (putF (upd (σ 1) 0 (oV (σ 3) n 1 c1)) 7 1 (tV (σ 3) n d4)))) (As := [.ref (ad 1), .int 1, .int (tV (σ 3) n d4)]) (rest := []) (st' := []) hC hK hZ hA hl.1 hH (k_X11_put l G 7 (pk ad [1]) (pk (ua (ua σ 0 (upd (upd (σ 0) 2 (nI d1.2)) 3 (bI d1.1))) 1 (upd (σ 1) 0 (oV (σ 3) n 1 c1))) [1]) 1 (tV (σ 3) n d4) (by decide)) lk_X8_55 [1] rfl rfl rfl rfl ⟨Nat.le_of_ble_eq_true rfl, Nat.le_of_ble_eq_true rfl⟩ ⟨Nat.le_refl _, Nat.le_refl _⟩ (Nat.le_of_ble_eq_true rfl) rfl dX8_readStatement_68 (fun H locs hH => ?_)
      replace hH : Hx G A (WRD G ad (ua (ua σ 0 (upd (upd (σ 0) 2 (nI d1.2)) 3 (bI d1.1))) 1 (upd (upd (σ 1) 0 (oV (σ 3) n 1 c1)) 1 (tV (σ 3) n d4)))) sS.heap H locs := hH.eq (congrArg (fun z_ : Nat → Int32 => WRD G ad (ua (ua σ 0 (upd (upd (σ 0) 2 (nI d1.2)) 3 (bI d1.1))) 1 z_)) (by exact putF_in rfl (by decide) (by decide) : (putF (upd (σ 1) 0 (oV (σ 3) n 1 c1)) 7 1 (tV (σ 3) n d4)) = (upd (upd (σ 1) 0 (oV (σ 3) n 1 c1)) 1 (tV (σ 3) n d4))))
      refine lv_aload_n hx hb dX8_readStatement_71 rfl (lv_at hl 1 rfl) ?_
      refine x_ldcS 5 hC hK (by decide) dX8_readStatement_72 ?_
      refine x_callVA (ws' := WRD G ad (ua (ua σ 0 (upd (upd (σ 0) 2 (nI (oF (σ 3) n 5 d1).2)) 3 (bI (oF (σ 3) n 5 d1).1))) 1 (upd (upd (σ 1) 0 (oV (σ 3) n 1 c1)) 1 (tV (σ 3) n d4)))) (As := [.ref (G.2.2.1 5)]) (rest := []) (st' := [.int (oV (σ 3) n 5 d1)]) hC hK hZ hA hl.1 hH (k_X8_oneOf l G ad (ua (ua σ 0 (upd (upd (σ 0) 2 (nI d1.2)) 3 (bI d1.1))) 1 (upd (upd (σ 1) 0 (oV (σ 3) n 1 c1)) 1 (tV (σ 3) n d4))) 5 n d1 hn hn80 rfl rfl ld1 hLb (by first | assumption | decide)) lk_X8_48 rfl 0 7 rfl rfl rfl ⟨Nat.le_of_ble_eq_true rfl, Nat.le_of_ble_eq_true rfl⟩ ⟨Nat.le_refl _, Nat.le_refl _⟩ (Nat.le_of_ble_eq_true rfl) rfl dX8_readStatement_74 (fun H locs hH => ?_)
      obtain ⟨g1, eg1⟩ : ∃ x_ : Pg, x_ = (oF (σ 3) n 5 d1) := ⟨_, rfl⟩
      have lg1 : g1.2 ≤ n := by rw [eg1]; exact (oF_le ld1)
      replace hH : Hx G A (WRD G ad (ua (ua σ 0 (upd (upd (σ 0) 2 (nI g1.2)) 3 (bI g1.1))) 1 (upd (upd (σ 1) 0 (oV (σ 3) n 1 c1)) 1 (tV (σ 3) n d4)))) sS.heap H locs := hH.eq (by rw [eg1])
      refine lv_pop hx hb dX8_readStatement_77 rfl ?_
      refine lv_iload_n hx hb dX8_readStatement_78 rfl (lv_at hl 0 rfl) ?_
      exact x_iret hC hr hkL hH rfl ((congrArg (fun z_ : Nat → Int32 => WRD G ad (ua (ua σ 0 z_) 1 (sT (σ 3) n a (σ 1)))) (by first | (rw [show sF (σ 3) n a = g1 from by rw [eg1, ed1, ec1]; exact congrArg (oF (σ 3) n 5) (sB_0 c8)]; done) | (rw [show sF (σ 3) n a = g1 from by rw [eg1, ed1, ec1]; exact congrArg (oF (σ 3) n 5) (sB_1 c28)]; done) | (rw [show sF (σ 3) n a = g1 from by rw [eg1, ed1, ed4, ed3, ec1]; exact congrArg (oF (σ 3) n 5) (sB_2 c8 c28)]; done) : (upd (upd (σ 0) 2 (nI (sF (σ 3) n a).2)) 3 (bI (sF (σ 3) n a).1)) = (upd (upd (σ 0) 2 (nI g1.2)) 3 (bI g1.1)))).trans (congrArg (fun z_ : Nat → Int32 => WRD G ad (ua (ua σ 0 (upd (upd (σ 0) 2 (nI g1.2)) 3 (bI g1.1))) 1 z_)) (by first | (rw [ec1]; exact sT_0 c8) | (rw [ec1]; exact sT_1 c28) | (rw [ed4, ed3, ec1]; exact sT_2 c8 c28) : (sT (σ 3) n a (σ 1)) = (upd (upd (σ 1) 0 (oV (σ 3) n 1 c1)) 1 (tV (σ 3) n d4))))) dX8_readStatement_79
    · refine lv_aload_n hx hb dX8_readStatement_31 rfl (lv_at hl 1 rfl) ?_
      refine x_callVA (ws' := WRD G ad (ua (ua σ 0 (upd (upd (σ 0) 2 (nI (b8 (σ 3) n c1).2)) 3 (bI (b8 (σ 3) n c1).1))) 1 (bT (σ 3) n c1 (σ 1)))) (As := []) (rest := []) (st' := []) hC hK hZ hA hl.1 hH (k_X8_readBet l G ad (ua σ 0 (upd (upd (σ 0) 2 (nI c1.2)) 3 (bI c1.1))) n c1 hn hn80 rfl rfl lc1 hLb) lk_X8_59 rfl 0 7 rfl rfl rfl ⟨Nat.le_of_ble_eq_true rfl, Nat.le_of_ble_eq_true rfl⟩ ⟨Nat.le_refl _, Nat.le_refl _⟩ (Nat.le_of_ble_eq_true rfl) rfl dX8_readStatement_32 (fun H locs hH => ?_)
      obtain ⟨d1, ed1⟩ : ∃ x_ : Pg, x_ = (b8 (σ 3) n c1) := ⟨_, rfl⟩
      have ld1 : d1.2 ≤ n := by rw [ed1]; exact (b8_le lc1)
      replace hH : Hx G A (WRD G ad (ua (ua σ 0 (upd (upd (σ 0) 2 (nI d1.2)) 3 (bI d1.1))) 1 (bT (σ 3) n c1 (σ 1)))) sS.heap H locs := hH.eq (by rw [ed1])
      refine lv_goto (tgt := 71) hx hb dX8_readStatement_35 (by decide) ?_
      skip
      refine lv_aload_n hx hb dX8_readStatement_71 rfl (lv_at hl 1 rfl) ?_
      refine x_ldcS 5 hC hK (by decide) dX8_readStatement_72 ?_
      refine x_callVA (ws' := WRD G ad (ua (ua σ 0 (upd (upd (σ 0) 2 (nI (oF (σ 3) n 5 d1).2)) 3 (bI (oF (σ 3) n 5 d1).1))) 1 (bT (σ 3) n c1 (σ 1)))) (As := [.ref (G.2.2.1 5)]) (rest := []) (st' := [.int (oV (σ 3) n 5 d1)]) hC hK hZ hA hl.1 hH (k_X8_oneOf l G ad (ua (ua σ 0 (upd (upd (σ 0) 2 (nI d1.2)) 3 (bI d1.1))) 1 (bT (σ 3) n c1 (σ 1))) 5 n d1 hn hn80 rfl rfl ld1 hLb (by first | assumption | decide)) lk_X8_48 rfl 0 7 rfl rfl rfl ⟨Nat.le_of_ble_eq_true rfl, Nat.le_of_ble_eq_true rfl⟩ ⟨Nat.le_refl _, Nat.le_refl _⟩ (Nat.le_of_ble_eq_true rfl) rfl dX8_readStatement_74 (fun H locs hH => ?_)
      obtain ⟨g1, eg1⟩ : ∃ x_ : Pg, x_ = (oF (σ 3) n 5 d1) := ⟨_, rfl⟩
      have lg1 : g1.2 ≤ n := by rw [eg1]; exact (oF_le ld1)
      replace hH : Hx G A (WRD G ad (ua (ua σ 0 (upd (upd (σ 0) 2 (nI g1.2)) 3 (bI g1.1))) 1 (bT (σ 3) n c1 (σ 1)))) sS.heap H locs := hH.eq (by rw [eg1])
      refine lv_pop hx hb dX8_readStatement_77 rfl ?_
      refine lv_iload_n hx hb dX8_readStatement_78 rfl (lv_at hl 0 rfl) ?_
      exact x_iret hC hr hkL hH rfl ((congrArg (fun z_ : Nat → Int32 => WRD G ad (ua (ua σ 0 z_) 1 (sT (σ 3) n a (σ 1)))) (by first | (rw [show sF (σ 3) n a = g1 from by rw [eg1, ed1, ec1]; exact congrArg (oF (σ 3) n 5) (sB_0 c8)]; done) | (rw [show sF (σ 3) n a = g1 from by rw [eg1, ed1, ec1]; exact congrArg (oF (σ 3) n 5) (sB_1 c28)]; done) | (rw [show sF (σ 3) n a = g1 from by rw [eg1, ed1, ed4, ed3, ec1]; exact congrArg (oF (σ 3) n 5) (sB_2 c8 c28)]; done) : (upd (upd (σ 0) 2 (nI (sF (σ 3) n a).2)) 3 (bI (sF (σ 3) n a).1)) = (upd (upd (σ 0) 2 (nI g1.2)) 3 (bI g1.1)))).trans (congrArg (fun z_ : Nat → Int32 => WRD G ad (ua (ua σ 0 (upd (upd (σ 0) 2 (nI g1.2)) 3 (bI g1.1))) 1 z_)) (by first | (rw [ec1]; exact sT_0 c8) | (rw [ec1]; exact sT_1 c28) | (rw [ed4, ed3, ec1]; exact sT_2 c8 c28) : (sT (σ 3) n a (σ 1)) = (bT (σ 3) n c1 (σ 1))))) dX8_readStatement_79
  · refine lv_aload_n hx hb dX8_readStatement_11 rfl (lv_at hl 1 rfl) ?_
    refine gf_X8_20 (v := .ref (ad 1)) hC hK hH 0 rfl rfl dX8_readStatement_12 ?_
    refine lv_iconst (v := 0) hx hb dX8_readStatement_15 (by decide) ?_
    refine lv_aload_n hx hb dX8_readStatement_16 rfl (lv_at hl 1 rfl) ?_
    refine x_callVA (ws' := WRD G ad (ua σ 0 (upd (upd (σ 0) 2 (nI (tF (σ 3) n c1).2)) 3 (bI (tF (σ 3) n c1).1)))) (As := []) (rest := [.int 0, .ref (ad 1)]) (st' := [.int (tV (σ 3) n c1), .int 0, .ref (ad 1)]) hC hK hZ hA hl.1 hH (k_X8_oneOrTwoDigits l G ad (ua σ 0 (upd (upd (σ 0) 2 (nI c1.2)) 3 (bI c1.1))) n c1 hn hn80 rfl rfl lc1 hLb) lk_X8_52 rfl 0 7 rfl rfl rfl ⟨Nat.le_of_ble_eq_true rfl, Nat.le_of_ble_eq_true rfl⟩ ⟨Nat.le_refl _, Nat.le_refl _⟩ (Nat.le_of_ble_eq_true rfl) rfl dX8_readStatement_17 (fun H locs hH => ?_)
    obtain ⟨d1, ed1⟩ : ∃ x_ : Pg, x_ = (tF (σ 3) n c1) := ⟨_, rfl⟩
    have ld1 : d1.2 ≤ n := by rw [ed1]; exact (tF_le lc1)
    replace hH : Hx G A (WRD G ad (ua σ 0 (upd (upd (σ 0) 2 (nI d1.2)) 3 (bI d1.1)))) sS.heap H locs := hH.eq (by rw [ed1])
    refine x_callN (ws' := WRD G ad (ua (ua σ 0 (upd (upd (σ 0) 2 (nI d1.2)) 3 (bI d1.1))) 1 (putF (σ 1) 7 0 (tV (σ 3) n c1)))) (As := [.ref (ad 1), .int 0, .int (tV (σ 3) n c1)]) (rest := []) (st' := []) hC hK hZ hA hl.1 hH (k_X11_put l G 7 (pk ad [1]) (pk (ua σ 0 (upd (upd (σ 0) 2 (nI d1.2)) 3 (bI d1.1))) [1]) 0 (tV (σ 3) n c1) (by decide)) lk_X8_55 [1] rfl rfl rfl rfl ⟨Nat.le_of_ble_eq_true rfl, Nat.le_of_ble_eq_true rfl⟩ ⟨Nat.le_refl _, Nat.le_refl _⟩ (Nat.le_of_ble_eq_true rfl) rfl dX8_readStatement_20 (fun H locs hH => ?_)
    replace hH : Hx G A (WRD G ad (ua (ua σ 0 (upd (upd (σ 0) 2 (nI d1.2)) 3 (bI d1.1))) 1 (upd (σ 1) 0 (tV (σ 3) n c1)))) sS.heap H locs := hH.eq (congrArg (fun z_ : Nat → Int32 => WRD G ad (ua (ua σ 0 (upd (upd (σ 0) 2 (nI d1.2)) 3 (bI d1.1))) 1 z_)) (by exact putF_in rfl (by decide) (by decide) : (putF (σ 1) 7 0 (tV (σ 3) n c1)) = (upd (σ 1) 0 (tV (σ 3) n c1))))
    refine lv_goto (tgt := 71) hx hb dX8_readStatement_23 (by decide) ?_
    skip
    refine lv_aload_n hx hb dX8_readStatement_71 rfl (lv_at hl 1 rfl) ?_
    refine x_ldcS 5 hC hK (by decide) dX8_readStatement_72 ?_
    refine x_callVA (ws' := WRD G ad (ua (ua σ 0 (upd (upd (σ 0) 2 (nI (oF (σ 3) n 5 d1).2)) 3 (bI (oF (σ 3) n 5 d1).1))) 1 (upd (σ 1) 0 (tV (σ 3) n c1)))) (As := [.ref (G.2.2.1 5)]) (rest := []) (st' := [.int (oV (σ 3) n 5 d1)]) hC hK hZ hA hl.1 hH (k_X8_oneOf l G ad (ua (ua σ 0 (upd (upd (σ 0) 2 (nI d1.2)) 3 (bI d1.1))) 1 (upd (σ 1) 0 (tV (σ 3) n c1))) 5 n d1 hn hn80 rfl rfl ld1 hLb (by first | assumption | decide)) lk_X8_48 rfl 0 7 rfl rfl rfl ⟨Nat.le_of_ble_eq_true rfl, Nat.le_of_ble_eq_true rfl⟩ ⟨Nat.le_refl _, Nat.le_refl _⟩ (Nat.le_of_ble_eq_true rfl) rfl dX8_readStatement_74 (fun H locs hH => ?_)
    obtain ⟨g1, eg1⟩ : ∃ x_ : Pg, x_ = (oF (σ 3) n 5 d1) := ⟨_, rfl⟩
    have lg1 : g1.2 ≤ n := by rw [eg1]; exact (oF_le ld1)
    replace hH : Hx G A (WRD G ad (ua (ua σ 0 (upd (upd (σ 0) 2 (nI g1.2)) 3 (bI g1.1))) 1 (upd (σ 1) 0 (tV (σ 3) n c1)))) sS.heap H locs := hH.eq (by rw [eg1])
    refine lv_pop hx hb dX8_readStatement_77 rfl ?_
    refine lv_iload_n hx hb dX8_readStatement_78 rfl (lv_at hl 0 rfl) ?_
    exact x_iret hC hr hkL hH rfl ((congrArg (fun z_ : Nat → Int32 => WRD G ad (ua (ua σ 0 z_) 1 (sT (σ 3) n a (σ 1)))) (by first | (rw [show sF (σ 3) n a = g1 from by rw [eg1, ed1, ec1]; exact congrArg (oF (σ 3) n 5) (sB_0 c8)]; done) | (rw [show sF (σ 3) n a = g1 from by rw [eg1, ed1, ec1]; exact congrArg (oF (σ 3) n 5) (sB_1 c28)]; done) | (rw [show sF (σ 3) n a = g1 from by rw [eg1, ed1, ed4, ed3, ec1]; exact congrArg (oF (σ 3) n 5) (sB_2 c8 c28)]; done) : (upd (upd (σ 0) 2 (nI (sF (σ 3) n a).2)) 3 (bI (sF (σ 3) n a).1)) = (upd (upd (σ 0) 2 (nI g1.2)) 3 (bI g1.1)))).trans (congrArg (fun z_ : Nat → Int32 => WRD G ad (ua (ua σ 0 (upd (upd (σ 0) 2 (nI g1.2)) 3 (bI g1.1))) 1 z_)) (by first | (rw [ec1]; exact sT_0 c8) | (rw [ec1]; exact sT_1 c28) | (rw [ed4, ed3, ec1]; exact sT_2 c8 c28) : (sT (σ 3) n a (σ 1)) = (upd (σ 1) 0 (tV (σ 3) n c1))))) dX8_readStatement_79
set_option maxHeartbeats 4000000 in
set_option maxRecDepth 100000 in
theorem k_X8_faultPlace (l : Launch) (G : GP) (ad : Nat → Nat) (σ : Nat → Nat → Int32) (n : Nat) (hn : (σ 2 1) = nI n) (hn80 : n ≤ 80) (hLb : LB (σ 3) n) : CTE l G yX8_faultPlace cX8_faultPlace 2 (some .int) 9 [.ref (ad 0)] (WRD G ad σ) (some (.int (fpV (σ 3) n))) (fun z => WRD G ad (ua (ua σ 0 (upd (upd (σ 0) 2 (nI (fpA (σ 3) n).2)) 3 (bI (fpA (σ 3) n).1))) 1 (z 1))) := by
  refine x_methE "BetsOnBets$Reader" rfl (by decide +kernel) (fun z => by rfl) (Nat.le_of_ble_eq_true rfl) ?_
  intro pP eE sS mM args below meth cC A ls hC hr hkL hK hZ hA hH hl
  have hx := hC.1
  have hb := hC.2.1
  have hl : lv_has ls 2 [(0, .ref (ad 0))] := hl
  refine lv_aload_n hx hb dX8_faultPlace_0 rfl (lv_at hl 0 rfl) ?_
  refine x_callVA (ws' := WRD G ad (ua σ 0 (upd (upd (σ 0) 2 0) 3 0))) (As := []) (rest := []) (st' := []) hC hK hZ hA hl.1 hH (k_X8_begin l G ad σ) lk_X8_35 rfl 0 7 rfl rfl rfl ⟨Nat.le_of_ble_eq_true rfl, Nat.le_of_ble_eq_true rfl⟩ ⟨Nat.le_refl _, Nat.le_refl _⟩ (Nat.le_of_ble_eq_true rfl) rfl dX8_faultPlace_1 (fun H locs hH => ?_)
  refine lv_aload_n hx hb dX8_faultPlace_4 rfl (lv_at hl 0 rfl) ?_
  refine x_callVA (ws' := WRD G ad (ua (ua σ 0 (upd (upd (σ 0) 2 (nI (sF (σ 3) n (False, 0)).2)) 3 (bI (sF (σ 3) n (False, 0)).1))) 1 (sT (σ 3) n (False, 0) (σ 1)))) (As := []) (rest := []) (st' := [.int (oV (σ 3) n 0 (False, 0))]) hC hK hZ hA hl.1 hH (k_X8_readStatement l G ad (ua σ 0 (upd (upd (σ 0) 2 0) 3 0)) n (False, 0) hn hn80 rfl (bI_f (P := False) (fun z => z)).symm (Nat.zero_le _) hLb) lk_X8_38 rfl 0 7 rfl rfl rfl ⟨Nat.le_of_ble_eq_true rfl, Nat.le_of_ble_eq_true rfl⟩ ⟨Nat.le_refl _, Nat.le_refl _⟩ (Nat.le_of_ble_eq_true rfl) rfl dX8_faultPlace_5 (fun H locs hH => ?_)
  refine lv_pop hx hb dX8_faultPlace_8 rfl ?_
  refine lv_iconst (v := 1) hx hb dX8_faultPlace_9 (by decide) ?_
  refine lv_istore_n (lv' := [(1, .int 1), (0, .ref (ad 0))]) hx hb dX8_faultPlace_10 rfl hl (by decide) rfl (fun ls hl => ?_)
  refine x_loop (G := G) (A := A) (H0 := sS.heap) (nL := 2) (α := Nat × Pg × (Nat → Nat → Int32)) (fun q_ => 80 - q_.1) (fun q_ => (1 ≤ q_.1 ∧ q_.1 ≤ 80) ∧ q_.2.1.2 ≤ n ∧ fpS (σ 3) n (80 - q_.1) q_.2.1 = fpA (σ 3) n) (fun q_ => WRD G ad (ua (ua σ 0 (upd (upd (σ 0) 2 (nI q_.2.1.2)) 3 (bI q_.2.1.1))) 1 (q_.2.2 1))) (fun q_ => [(0, .ref (ad 0)), (1, .int (nI q_.1))]) ?_ (1, (sF (σ 3) n (False, 0)), (ua (ua σ 0 (upd (upd (σ 0) 2 (nI (sF (σ 3) n (False, 0)).2)) 3 (bI (sF (σ 3) n (False, 0)).1))) 1 (sT (σ 3) n (False, 0) (σ 1)))) (show (1 ≤ 1 ∧ 1 ≤ 80) ∧ (sF (σ 3) n (False, 0)).2 ≤ n ∧ fpS (σ 3) n (80 - 1) (sF (σ 3) n (False, 0)) = fpA (σ 3) n from ⟨⟨by decide, by decide⟩, sF_le (Nat.zero_le _), rfl⟩) ?_ ?_
  · rintro ⟨t, b, z_t⟩ hi_t ih_t H locs ls hH hl
    replace hi_t : (1 ≤ t ∧ t ≤ 80) ∧ b.2 ≤ n ∧ fpS (σ 3) n (80 - t) b = fpA (σ 3) n := hi_t
    replace hH : Hx G A (WRD G ad (ua (ua σ 0 (upd (upd (σ 0) 2 (nI b.2)) 3 (bI b.1))) 1 (z_t 1))) sS.heap H locs := hH
    replace hl : lv_has ls 2 [(0, .ref (ad 0)), (1, .int (nI t))] := hl
    have hi_t1 := hi_t.1.1
    have hi_t2 := hi_t.1.2
    refine lv_iload_n hx hb dX8_faultPlace_11 rfl (lv_at hl 1 rfl) ?_
    refine lv_bipush (v := 80) hx hb dX8_faultPlace_12 (by decide) ?_
    refine lv_icmp_ge (tgt := 35) hx hb dX8_faultPlace_14 (by decide) (fun c14 => ?_) (fun c14 => ?_)
    · have ge_t := lp_out (n := 80) rfl (by omega) (by omega) c14
      have fb_ : fpA (σ 3) n = b := (by first | exact hi_t.2.2.symm.trans (fpS_f c21) | (rw [← hi_t.2.2, show 80 - t = 0 by omega]; rfl))
      refine lv_aload_n hx hb dX8_faultPlace_35 rfl (lv_at hl 0 rfl) ?_
      refine gf_X8_28 (v := .int (bI b.1)) hC hK hH 0 rfl rfl dX8_faultPlace_36 ?_
      refine x_topE (y := (bI (b.1))) rfl ?_
      refine x_beq (tgt := 49) hC dX8_faultPlace_39 (by decide) (fun c39 => ?_) (fun c39 => ?_)
      · refine lv_bipush (v := (-9)) hx hb dX8_faultPlace_49 (by decide) ?_
        exact x_iretE (ua (ua σ 0 (upd (upd (σ 0) 2 (nI b.2)) 3 (bI b.1))) 1 (z_t 1)) hC hr hkL hH (by rw [fpV, fb_]; first | exact cI_t c39 | exact cI_f c39) (congrArg (fun z_ : Nat → Int32 => WRD G ad (ua (ua σ 0 z_) 1 (z_t 1))) (by rw [fb_] : (upd (upd (σ 0) 2 (nI (fpA (σ 3) n).2)) 3 (bI (fpA (σ 3) n).1)) = (upd (upd (σ 0) 2 (nI b.2)) 3 (bI b.1)))) dX8_faultPlace_51
      · refine lv_aload_n hx hb dX8_faultPlace_42 rfl (lv_at hl 0 rfl) ?_
        refine gf_X8_24 (v := .int (nI b.2)) hC hK hH 0 rfl rfl dX8_faultPlace_43 ?_
        refine lv_goto (tgt := 51) hx hb dX8_faultPlace_46 (by decide) ?_
        exact x_iretE (ua (ua σ 0 (upd (upd (σ 0) 2 (nI b.2)) 3 (bI b.1))) 1 (z_t 1)) hC hr hkL hH (by rw [fpV, fb_]; first | exact cI_t c39 | exact cI_f c39) (congrArg (fun z_ : Nat → Int32 => WRD G ad (ua (ua σ 0 z_) 1 (z_t 1))) (by rw [fb_] : (upd (upd (σ 0) 2 (nI (fpA (σ 3) n).2)) 3 (bI (fpA (σ 3) n).1)) = (upd (upd (σ 0) 2 (nI b.2)) 3 (bI b.1)))) dX8_faultPlace_51
    · have lt_t := lp_in (n := 80) rfl (by omega) (by omega) c14
      refine lv_aload_n hx hb dX8_faultPlace_17 rfl (lv_at hl 0 rfl) ?_
      refine x_callVA (ws' := WRD G ad (ua (ua σ 0 (upd (upd (σ 0) 2 (nI b.2)) 3 (bI b.1))) 1 (z_t 1))) (As := []) (rest := []) (st' := [.int (bI (gP n b))]) hC hK hZ hA hl.1 hH (k_X8_goesOn l G ad (ua (ua σ 0 (upd (upd (σ 0) 2 (nI b.2)) 3 (bI b.1))) 1 (z_t 1)) n b hn hn80 rfl rfl hi_t.2.1 hLb) lk_X8_42 rfl 0 7 rfl rfl rfl ⟨Nat.le_of_ble_eq_true rfl, Nat.le_of_ble_eq_true rfl⟩ ⟨Nat.le_refl _, Nat.le_refl _⟩ (Nat.le_of_ble_eq_true rfl) rfl dX8_faultPlace_18 (fun H locs hH => ?_)
      refine x_beq (tgt := 35) hC dX8_faultPlace_21 (by decide) (fun c21 => ?_) (fun c21 => ?_)
      · have fb_ : fpA (σ 3) n = b := (by first | exact hi_t.2.2.symm.trans (fpS_f c21) | (rw [← hi_t.2.2, show 80 - t = 0 by omega]; rfl))
        refine lv_aload_n hx hb dX8_faultPlace_35 rfl (lv_at hl 0 rfl) ?_
        refine gf_X8_28 (v := .int (bI b.1)) hC hK hH 0 rfl rfl dX8_faultPlace_36 ?_
        refine x_topE (y := (bI (b.1))) rfl ?_
        refine x_beq (tgt := 49) hC dX8_faultPlace_39 (by decide) (fun c39 => ?_) (fun c39 => ?_)
        · refine lv_bipush (v := (-9)) hx hb dX8_faultPlace_49 (by decide) ?_
          exact x_iretE (ua (ua σ 0 (upd (upd (σ 0) 2 (nI b.2)) 3 (bI b.1))) 1 (z_t 1)) hC hr hkL hH (by rw [fpV, fb_]; first | exact cI_t c39 | exact cI_f c39) (congrArg (fun z_ : Nat → Int32 => WRD G ad (ua (ua σ 0 z_) 1 (z_t 1))) (by rw [fb_] : (upd (upd (σ 0) 2 (nI (fpA (σ 3) n).2)) 3 (bI (fpA (σ 3) n).1)) = (upd (upd (σ 0) 2 (nI b.2)) 3 (bI b.1)))) dX8_faultPlace_51
        · refine lv_aload_n hx hb dX8_faultPlace_42 rfl (lv_at hl 0 rfl) ?_
          refine gf_X8_24 (v := .int (nI b.2)) hC hK hH 0 rfl rfl dX8_faultPlace_43 ?_
          refine lv_goto (tgt := 51) hx hb dX8_faultPlace_46 (by decide) ?_
          exact x_iretE (ua (ua σ 0 (upd (upd (σ 0) 2 (nI b.2)) 3 (bI b.1))) 1 (z_t 1)) hC hr hkL hH (by rw [fpV, fb_]; first | exact cI_t c39 | exact cI_f c39) (congrArg (fun z_ : Nat → Int32 => WRD G ad (ua (ua σ 0 z_) 1 (z_t 1))) (by rw [fb_] : (upd (upd (σ 0) 2 (nI (fpA (σ 3) n).2)) 3 (bI (fpA (σ 3) n).1)) = (upd (upd (σ 0) 2 (nI b.2)) 3 (bI b.1)))) dX8_faultPlace_51
      · refine lv_aload_n hx hb dX8_faultPlace_24 rfl (lv_at hl 0 rfl) ?_
        refine x_callVA (ws' := WRD G ad (ua (ua σ 0 (upd (upd (σ 0) 2 (nI (sF (σ 3) n b).2)) 3 (bI (sF (σ 3) n b).1))) 1 (sT (σ 3) n b (z_t 1)))) (As := []) (rest := []) (st' := [.int (oV (σ 3) n 0 b)]) hC hK hZ hA hl.1 hH (k_X8_readStatement l G ad (ua (ua σ 0 (upd (upd (σ 0) 2 (nI b.2)) 3 (bI b.1))) 1 (z_t 1)) n b hn hn80 rfl rfl hi_t.2.1 hLb) lk_X8_38 rfl 0 7 rfl rfl rfl ⟨Nat.le_of_ble_eq_true rfl, Nat.le_of_ble_eq_true rfl⟩ ⟨Nat.le_refl _, Nat.le_refl _⟩ (Nat.le_of_ble_eq_true rfl) rfl dX8_faultPlace_25 (fun H locs hH => ?_)
        refine lv_pop hx hb dX8_faultPlace_28 rfl ?_
        refine lv_iinc (v := ((nI t) + 1)) (lv' := [(1, .int ((nI t) + 1)), (0, .ref (ad 0))]) hx hb dX8_faultPlace_29 hl (k := 1) rfl rfl (by decide) rfl (fun ls hl => ?_)
        refine lv_goto (tgt := 11) hx hb dX8_faultPlace_32 (by decide) ?_
        exact ih_t ((t + 1), (sF (σ 3) n b), (ua (ua σ 0 (upd (upd (σ 0) 2 (nI (sF (σ 3) n b).2)) 3 (bI (sF (σ 3) n b).1))) 1 (sT (σ 3) n b (z_t 1)))) (show (1 ≤ (t + 1) ∧ (t + 1) ≤ 80) ∧ (sF (σ 3) n b).2 ≤ n ∧ fpS (σ 3) n (80 - (t + 1)) (sF (σ 3) n b) = fpA (σ 3) n from ⟨⟨by omega, by omega⟩, sF_le hi_t.2.1, (show fpS (σ 3) n (80 - (t + 1)) (sF (σ 3) n b) = _ by rw [show 80 - (t + 1) = (80 - t) - 1 by omega]; exact (fpS_t c21 (by omega)).trans hi_t.2.2)⟩) (show 80 - (t + 1) < 80 - t from (by omega)) _ _ _ (hH.eq rfl) (lv_eq (lv_sub hl [1, 0] rfl) (lc_s (lc_i (by exact nI_1 _ : ((nI t) + 1) = (nI (t + 1))) rfl)))
  · exact hH.eq rfl
  · exact lv_eq (lv_sub hl [1, 0] rfl) (lc_s (lc_i (by rfl : 1 = (nI 1)) rfl))
