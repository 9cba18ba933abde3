/-! the class: the calls -/
theorem inb2 {w : Int32} : inb w 2 ↔ (w = 0 ∨ w = 1) := by
  constructor
  · intro h
    obtain ⟨j, hj, e⟩ := inb_of (k := 2) (by omega) h
    rcases (show j = 0 ∨ j = 1 by omega) with r | r
    · exact Or.inl (by rw [e, r]; rfl)
    · exact Or.inr (by rw [e, r]; rfl)
  · intro h
    rcases h with r | r
    · rw [r]; exact ⟨by decide, by decide⟩
    · rw [r]; exact ⟨by decide, by decide⟩
theorem inb2_n {w : Int32} (h0 : ¬ w = 0) (h1 : ¬ w = 1) : ¬ inb w 2 := fun z => (inb2.mp z).elim h0 h1
theorem setC_s {k : Nat} {b w v : Int32} (h1 : inb b k) (hw : w = 0) : setC k b w v = wiC v 1 99 := by rw [setC, cI_t h1, cI_t (inb2.mpr (Or.inl hw)), if_pos hw, if_pos hw]
theorem setC_o {k : Nat} {b w v : Int32} (h1 : inb b k) (hw : w = 1) : setC k b w v = wiC v 0 9 := by
  have h0 : ¬ w = 0 := fun z => absurd (z.symm.trans hw) (by decide)
  rw [setC, cI_t h1, cI_t (inb2.mpr (Or.inr hw)), if_neg h0, if_neg h0]
theorem inb7_n1 {w : Int32} (h : w < 0) : ¬ inb w 7 := inb_f1 h
theorem inb7_t {w : Int32} (h : ¬ w < 0) (h2 : w ≤ 6) : inb w 7 := by
  obtain ⟨j, hj, e⟩ := nI_of2 (M := 6) (n := 6) rfl h h2
  rw [e]; exact ⟨nI_pos' (by omega), nI_lt (by omega) (by omega)⟩
theorem inb7_n2 {w : Int32} (h2 : ¬ w ≤ 6) : ¬ inb w 7 := fun z => by
  obtain ⟨j, hj, e⟩ := inb_of (k := 7) (by omega) z
  exact h2 (by rw [e]; exact nI_le (b := 6) (by omega) (by omega))
theorem stD1 : ∀ s, s < 64 → ∀ a, a < 64 → ∀ b, b < 6 → ¬ s &&& a = a ∨ (nI a >>> (nI b &&& 31)) &&& 1 = 1 ∨ ¬ ((nI s - nI a) >>> (nI b &&& 31)) &&& 1 = 1 ∨ ¬ (nI s >>> (nI b &&& 31)) &&& 1 = 0 := by decide +kernel
theorem stD2 : ∀ s, s < 64 → ∀ a, a < 64 → ∀ b, b < 6 → ¬ s &&& a = a ∨ (nI a >>> (nI b &&& 31)) &&& 1 = 1 ∨ ((nI s - nI a) >>> (nI b &&& 31)) &&& 1 = 1 ∨ (nI s >>> (nI b &&& 31)) &&& 1 = 0 := by decide +kernel
theorem stD' {s a b : Nat} (hs : s < 64) (ha : a < 64) (hb : b < 6) (h : s &&& a = a) : (nI a >>> (nI b &&& 31)) &&& 1 = 1 ∨ (¬ (nI a >>> (nI b &&& 31)) &&& 1 = 1 ∧ (((nI s - nI a) >>> (nI b &&& 31)) &&& 1 = 1 ↔ ¬ (nI s >>> (nI b &&& 31)) &&& 1 = 0)) := by
  by_cases q : (nI a >>> (nI b &&& 31)) &&& 1 = 1
  · exact Or.inl q
  · have d1 := ((stD1 s hs a ha b hb).resolve_left (fun z => z h)).resolve_left q
    have d2 := ((stD2 s hs a ha b hb).resolve_left (fun z => z h)).resolve_left q
    exact Or.inr ⟨q, fun z => d1.resolve_left (fun y => y z), fun z => d2.resolve_right z⟩
theorem stD0 : ∀ k, k < 7 → ∀ b, b < k → ¬ ((0 : Int32) >>> (nI b &&& 31)) &&& 1 = 1 ∧ ((nI (2 ^ k) - 1) >>> (nI b &&& 31)) &&& 1 = 1 := by decide +kernel
theorem sa_step {s a i : Nat} (h : s &&& a = a) : (s ||| i) &&& (a &&& i) = a &&& i := by
  apply Nat.eq_of_testBit_eq
  intro j
  have e := congrArg (fun x => x.testBit j) h
  simp only [Nat.testBit_and, Nat.testBit_or] at e ⊢
  revert e
  cases s.testBit j <;> cases a.testBit j <;> cases i.testBit j <;> decide
theorem ev_and : ∀ k, k < 7 → ∀ i, i < 2 ^ k → (nI (2 ^ k) - 1) &&& nI i = nI i := by decide +kernel
theorem fwI {β : Bk} {e : Int32} (hk : bK β ≤ 6) : ∀ i, i ≤ 2 ^ bK β → ∃ n s a, n ≤ i ∧ (fw β e i).1 = nI n ∧ s < 2 ^ bK β ∧ a < 2 ^ bK β ∧ s &&& a = a ∧ (fw β e i).2.2.1 = nI s ∧ ((n = 0 ∧ s = 0 ∧ (fw β e i).2.2.2 = nI (2 ^ bK β) - 1) ∨ (0 < n ∧ (fw β e i).2.2.2 = nI a)) := by
  have pk := pw6 hk
  intro i
  induction i with
  | zero => intro _; exact ⟨0, 0, 0, Nat.le_refl _, rfl, Nat.two_pow_pos _, Nat.two_pow_pos _, rfl, rfl, Or.inl ⟨rfl, rfl, rfl⟩⟩
  | succ i ih =>
    intro hi
    obtain ⟨n, s, a, hn, e1, hs, ha, hsa, e3, r⟩ := ih (by omega)
    have i6 : i < 2 ^ bK β := by omega
    by_cases q : isWayP β e (nI i)
    · rw [fw_t q]
      rcases r with ⟨r0, rs, re⟩ | ⟨r0, re⟩
      · refine ⟨n + 1, i, i, by omega, ?_, i6, i6, Nat.and_self i, ?_, Or.inr ⟨by omega, ?_⟩⟩
        · show (fw β e i).1 + 1 = _
          rw [e1]; exact nI_1 _
        · show (fw β e i).2.2.1 ||| nI i = _
          rw [e3, rs, nI_or, Nat.zero_or]
        · show (fw β e i).2.2.2 &&& nI i = _
          rw [re, ev_and _ (by omega) i (by omega)]
      · refine ⟨n + 1, s ||| i, a &&& i, by omega, ?_, Nat.or_lt_two_pow hs i6, Nat.lt_of_le_of_lt Nat.and_le_right i6, sa_step hsa, ?_, Or.inr ⟨by omega, ?_⟩⟩
        · show (fw β e i).1 + 1 = _
          rw [e1]; exact nI_1 _
        · show (fw β e i).2.2.1 ||| nI i = _
          rw [e3, nI_or]
        · show (fw β e i).2.2.2 &&& nI i = _
          rw [re, nI_and]
    · rw [fw_f q]
      exact ⟨n, s, a, by omega, e1, hs, ha, hsa, e3, r⟩
theorem wo_of {β : Bk} {Mn Fs Wn Op : Nat → Int32} (hk : bK β ≤ 6) (h : WyE β Mn Fs Wn Op) : WO β Wn Op := by
  intro e he b hb
  have pk := pw6 hk
  rw [(h e he).2.2.1, (h e he).2.2.2]
  obtain ⟨n, s, a, hn, e1, hs, ha, hsa, e3, r⟩ := fwI (e := nI e) hk _ (Nat.le_refl (2 ^ bK β))
  rw [stP, wyW, wyO, wonF, opF, fwA, e1, e3]
  rcases r with ⟨r0, rs, re⟩ | ⟨r0, re⟩
  · have d := stD0 _ (show bK β < 7 by omega) b hb
    subst r0
    rw [if_neg (by decide), if_neg (by decide), standF, if_pos (by decide), stW, cI_f (show ¬ tb 0 (nI b) from d.1), cI_t (show tb _ (nI b) from d.2)]
  · have np : 0 < nI n := nI_lt (a := 0) r0 (by omega)
    have n0 : ¬ nI n = 0 := fun z => by
      rw [z] at np
      exact absurd np (by decide)
    rw [if_pos np, if_pos np, re, standF, if_neg n0, stW]
    rcases stD' (show s < 64 by omega) (show a < 64 by omega) (show b < 6 by omega) hsa with d | ⟨d, d2⟩
    · rw [cI_t (show tb (nI a) (nI b) from d), cI_t (show tb (nI a) (nI b) from d)]
    · rw [cI_f (show ¬ tb (nI a) (nI b) from d), cI_f (show ¬ tb (nI a) (nI b) from d)]
      by_cases q : (nI s >>> (nI b &&& 31)) &&& 1 = 0
      · rw [if_pos q, cI_f (show ¬ tb _ (nI b) from fun z => d2.mp z q)]
      · rw [if_neg q, cI_t (show tb _ (nI b) from d2.mpr q)]
theorem lk_g {v a b : Int32} (h : ¬ v < a) (h2 : ¬ b < v) : wiC v a b = 0 := wiC0 h h2
theorem sdI_end {β : Bk} (hh : bH β ≤ 4) (s : Int32) : ∀ h, h ≤ bH β → ∃ e, e < 2 ^ h ∧ (sdI β s h).2 = nI e := by
  intro h
  induction h with
  | zero => intro _; exact ⟨0, by decide, rfl⟩
  | succ h ih =>
    intro hl
    obtain ⟨e, he, ee⟩ := ih (by omega)
    rw [Nat.pow_succ]
    by_cases q : drw ((sdI β s h).1 * 1664525 + 1013904223) < bC β h
    · refine ⟨e + 2 ^ h, by omega, ?_⟩
      rw [← sdI_t (Int32.not_le.mpr q), ee, or_top he (by omega)]
    · refine ⟨e, by omega, ?_⟩
      rw [← sdI_f (Int32.not_lt.mp q), i_or0, ee]
set_option maxHeartbeats 4000000 in
set_option maxRecDepth 100000 in
theorem k_X11_taken_l (l : Launch) (G : GP) (ad : Nat → Nat) (σ : Nat → Nat → Int32) (v : Int32) (mx : Int32) (z : Nat) (hz : (σ 1 1) = nI z) (hzn : z ≤ 80) : CT l G yX11_taken cX11_taken 4 (some .int) 2 [.ref (ad 0), .ref (ad 1), .int v, .int mx] (WC G ad σ) (some (.int (rfA (letC z v mx 80) (nI (z + 1))))) (WC G ad (ua (ua (ua σ 1 (upd (σ 1) 1 (nI (ifz (letC z v mx 80) (z + 1) z)))) 2 (ifz (letC z v mx 80) (upd (σ 2) z v) (σ 2))) 31 (rfz (σ 31) (letC z v mx 80)))) := by
  refine x_meth "BetsOnBets" rfl (by decide +kernel) (by rfl) (Nat.le_of_ble_eq_true rfl) ?_
  intro pP eE sS mM args below meth cC A ls hC hr hkL hK hZ hA hH hl
  have hx := hC.1
  have hb := hC.2.1
  have hl : lv_has ls 4 [(0, .ref (ad 0)), (1, .ref (ad 1)), (2, .int v), (3, .int mx)] := hl
  refine lv_iload_n hx hb dX11_taken_0 rfl (lv_at hl 2 rfl) ?_
  refine lv_if_ge (tgt := 11) hx hb dX11_taken_1 (by decide) (fun c1 => ?_) (fun c1 => ?_)
  · refine lv_iload_n hx hb dX11_taken_11 rfl (lv_at hl 2 rfl) ?_
    refine lv_iload_n hx hb dX11_taken_12 rfl (lv_at hl 3 rfl) ?_
    refine lv_icmp_gt (tgt := 23) hx hb dX11_taken_13 (by decide) (fun c13 => ?_) (fun c13 => ?_)
    · refine lv_aload_n hx hb dX11_taken_23 rfl (lv_at hl 0 rfl) ?_
      refine lv_bipush (v := (-6)) hx hb dX11_taken_24 (by decide) ?_
      refine x_callVA (ws' := WC G ad (ua σ 31 (upd (σ 31) 6 ((σ 31) 6 + 1)))) (As := [.int (-6)]) (rest := []) (st' := [.int (-6)]) hC hK hZ hA hl.1 hH (k_X11_refused l G ad σ (-6) 6 rfl (by decide)) lk_X11_80 rfl 0 10 rfl rfl rfl ⟨Nat.le_of_ble_eq_true rfl, Nat.le_of_ble_eq_true rfl⟩ ⟨Nat.le_refl _, Nat.le_refl _⟩ (Nat.le_of_ble_eq_true rfl) rfl dX11_taken_26 (fun H locs hH => ?_)
      exact x_iret hC hr hkL hH (by first | exact rfAk (letC6 (Int32.not_lt.mpr c1) c13) (by decide) | exact rfAk (letCf (Int32.not_lt.mpr c1) c13 (by omega)) (by decide)) ((((congrArg (fun z_ : Nat → Int32 => WC G ad (ua (ua (ua σ 1 z_) 2 (ifz (letC z v mx 80) (upd (σ 2) z v) (σ 2))) 31 (rfz (σ 31) (letC z v mx 80)))) (by first | exact ifzk (letC4 (Int32.not_le.mp c1)) (by decide) | exact ifzk (letC6 (Int32.not_lt.mpr c1) c13) (by decide) | exact ifzk (letCf (Int32.not_lt.mpr c1) c13 (by omega)) (by decide) | (rw [ifzk (letC4 (Int32.not_le.mp c1)) (by decide), ← hz]; exact upd_id rfl) | (rw [ifzk (letC6 (Int32.not_lt.mpr c1) c13) (by decide), ← hz]; exact upd_id rfl) | (rw [ifzk (letCf (Int32.not_lt.mpr c1) c13 (by omega)) (by decide), ← hz]; exact upd_id rfl) : (upd (σ 1) 1 (nI (ifz (letC z v mx 80) (z + 1) z))) = (σ 1))).trans (congrArg (fun z_ : Nat → Int32 => WC G ad (ua (ua (ua σ 1 (σ 1)) 2 z_) 31 (rfz (σ 31) (letC z v mx 80)))) (by first | exact ifzk (letC4 (Int32.not_le.mp c1)) (by decide) | exact ifzk (letC6 (Int32.not_lt.mpr c1) c13) (by decide) | exact ifzk (letCf (Int32.not_lt.mpr c1) c13 (by omega)) (by decide) | (rw [ifzk (letC4 (Int32.not_le.mp c1)) (by decide), ← hz]; exact upd_id rfl) | (rw [ifzk (letC6 (Int32.not_lt.mpr c1) c13) (by decide), ← hz]; exact upd_id rfl) | (rw [ifzk (letCf (Int32.not_lt.mpr c1) c13 (by omega)) (by decide), ← hz]; exact upd_id rfl) : (ifz (letC z v mx 80) (upd (σ 2) z v) (σ 2)) = (σ 2)))).trans (congrArg (fun z_ : Nat → Int32 => WC G ad (ua (ua (ua σ 1 (σ 1)) 2 (σ 2)) 31 z_)) (by first | exact rfzk (letC6 (Int32.not_lt.mpr c1) c13) (by decide) | exact rfzk (letCf (Int32.not_lt.mpr c1) c13 (by omega)) (by decide) : (rfz (σ 31) (letC z v mx 80)) = (upd (σ 31) 6 ((σ 31) 6 + 1))))).trans (show WC G ad (ua (ua (ua σ 1 (σ 1)) 2 (σ 2)) 31 (upd (σ 31) 6 ((σ 31) 6 + 1))) = WC G ad (ua σ 31 (upd (σ 31) 6 ((σ 31) 6 + 1))) from rfl)) dX11_taken_29
    · refine lv_aload_n hx hb dX11_taken_16 rfl (lv_at hl 1 rfl) ?_
      refine x_callV (ws' := WC G ad σ) (As := []) (rest := []) (st' := [.int (bI (80 ≤ z))]) hC hK hZ hA hl.1 hH (k_X9_isFull l G 80 (pk ad [1, 2]) (pk σ [1, 2]) z hz (by decide) (by omega)) lk_X11_223 [1, 2] rfl rfl rfl 1 8 rfl rfl rfl ⟨Nat.le_of_ble_eq_true rfl, Nat.le_of_ble_eq_true rfl⟩ ⟨Nat.le_refl _, Nat.le_refl _⟩ (Nat.le_of_ble_eq_true rfl) rfl dX11_taken_17 (fun H locs hH => ?_)
      refine x_beq (tgt := 30) hC dX11_taken_20 (by decide) (fun c20 => ?_) (fun c20 => ?_)
      · refine lv_aload_n hx hb dX11_taken_30 rfl (lv_at hl 1 rfl) ?_
        refine lv_iload_n hx hb dX11_taken_31 rfl (lv_at hl 2 rfl) ?_
        refine x_callV (ws' := WC G ad (ua (ua σ 1 (upd (σ 1) 1 (nI (z + 1)))) 2 (upd (σ 2) z v))) (As := [.int v]) (rest := []) (st' := []) hC hK hZ hA hl.1 hH (k_X9_add l G 80 (pk ad [1, 2]) (pk σ [1, 2]) v z hz (by decide) (by omega)) lk_X11_226 [1, 2] rfl rfl rfl 1 8 rfl rfl rfl ⟨Nat.le_of_ble_eq_true rfl, Nat.le_of_ble_eq_true rfl⟩ ⟨Nat.le_refl _, Nat.le_refl _⟩ (Nat.le_of_ble_eq_true rfl) rfl dX11_taken_32 (fun H locs hH => ?_)
        refine lv_aload_n hx hb dX11_taken_35 rfl (lv_at hl 1 rfl) ?_
        refine gf_X11_200 (v := .int (nI (z + 1))) hC hK hH 1 rfl rfl dX11_taken_36 ?_
        exact x_iret hC hr hkL hH (by (refine (rfA0 (letC0 (Int32.not_lt.mpr c1) c13 (by omega))).trans ?_); rfl) ((((congrArg (fun z_ : Nat → Int32 => WC G ad (ua (ua (ua σ 1 z_) 2 (ifz (letC z v mx 80) (upd (σ 2) z v) (σ 2))) 31 (rfz (σ 31) (letC z v mx 80)))) (by first | ((refine (ifz0 (letC0 (Int32.not_lt.mpr c1) c13 (by omega))).trans ?_); rfl) | rw [ifz0 (letC0 (Int32.not_lt.mpr c1) c13 (by omega))] : (upd (σ 1) 1 (nI (ifz (letC z v mx 80) (z + 1) z))) = (upd (σ 1) 1 (nI (z + 1))))).trans (congrArg (fun z_ : Nat → Int32 => WC G ad (ua (ua (ua σ 1 (upd (σ 1) 1 (nI (z + 1)))) 2 z_) 31 (rfz (σ 31) (letC z v mx 80)))) (by first | ((refine (ifz0 (letC0 (Int32.not_lt.mpr c1) c13 (by omega))).trans ?_); rfl) | rw [ifz0 (letC0 (Int32.not_lt.mpr c1) c13 (by omega))] : (ifz (letC z v mx 80) (upd (σ 2) z v) (σ 2)) = (upd (σ 2) z v)))).trans (congrArg (fun z_ : Nat → Int32 => WC G ad (ua (ua (ua σ 1 (upd (σ 1) 1 (nI (z + 1)))) 2 (upd (σ 2) z v)) 31 z_)) (by exact rfz0 (letC0 (Int32.not_lt.mpr c1) c13 (by omega)) : (rfz (σ 31) (letC z v mx 80)) = (σ 31)))).trans (show WC G ad (ua (ua (ua σ 1 (upd (σ 1) 1 (nI (z + 1)))) 2 (upd (σ 2) z v)) 31 (σ 31)) = WC G ad (ua (ua σ 1 (upd (σ 1) 1 (nI (z + 1)))) 2 (upd (σ 2) z v)) from rfl)) dX11_taken_39
      · refine lv_aload_n hx hb dX11_taken_23 rfl (lv_at hl 0 rfl) ?_
        refine lv_bipush (v := (-6)) hx hb dX11_taken_24 (by decide) ?_
        refine x_callVA (ws' := WC G ad (ua σ 31 (upd (σ 31) 6 ((σ 31) 6 + 1)))) (As := [.int (-6)]) (rest := []) (st' := [.int (-6)]) hC hK hZ hA hl.1 hH (k_X11_refused l G ad σ (-6) 6 rfl (by decide)) lk_X11_80 rfl 0 10 rfl rfl rfl ⟨Nat.le_of_ble_eq_true rfl, Nat.le_of_ble_eq_true rfl⟩ ⟨Nat.le_refl _, Nat.le_refl _⟩ (Nat.le_of_ble_eq_true rfl) rfl dX11_taken_26 (fun H locs hH => ?_)
        exact x_iret hC hr hkL hH (by first | exact rfAk (letC6 (Int32.not_lt.mpr c1) c13) (by decide) | exact rfAk (letCf (Int32.not_lt.mpr c1) c13 (by omega)) (by decide)) ((((congrArg (fun z_ : Nat → Int32 => WC G ad (ua (ua (ua σ 1 z_) 2 (ifz (letC z v mx 80) (upd (σ 2) z v) (σ 2))) 31 (rfz (σ 31) (letC z v mx 80)))) (by first | exact ifzk (letC4 (Int32.not_le.mp c1)) (by decide) | exact ifzk (letC6 (Int32.not_lt.mpr c1) c13) (by decide) | exact ifzk (letCf (Int32.not_lt.mpr c1) c13 (by omega)) (by decide) | (rw [ifzk (letC4 (Int32.not_le.mp c1)) (by decide), ← hz]; exact upd_id rfl) | (rw [ifzk (letC6 (Int32.not_lt.mpr c1) c13) (by decide), ← hz]; exact upd_id rfl) | (rw [ifzk (letCf (Int32.not_lt.mpr c1) c13 (by omega)) (by decide), ← hz]; exact upd_id rfl) : (upd (σ 1) 1 (nI (ifz (letC z v mx 80) (z + 1) z))) = (σ 1))).trans (congrArg (fun z_ : Nat → Int32 => WC G ad (ua (ua (ua σ 1 (σ 1)) 2 z_) 31 (rfz (σ 31) (letC z v mx 80)))) (by first | exact ifzk (letC4 (Int32.not_le.mp c1)) (by decide) | exact ifzk (letC6 (Int32.not_lt.mpr c1) c13) (by decide) | exact ifzk (letCf (Int32.not_lt.mpr c1) c13 (by omega)) (by decide) | (rw [ifzk (letC4 (Int32.not_le.mp c1)) (by decide), ← hz]; exact upd_id rfl) | (rw [ifzk (letC6 (Int32.not_lt.mpr c1) c13) (by decide), ← hz]; exact upd_id rfl) | (rw [ifzk (letCf (Int32.not_lt.mpr c1) c13 (by omega)) (by decide), ← hz]; exact upd_id rfl) : (ifz (letC z v mx 80) (upd (σ 2) z v) (σ 2)) = (σ 2)))).trans (congrArg (fun z_ : Nat → Int32 => WC G ad (ua (ua (ua σ 1 (σ 1)) 2 (σ 2)) 31 z_)) (by first | exact rfzk (letC6 (Int32.not_lt.mpr c1) c13) (by decide) | exact rfzk (letCf (Int32.not_lt.mpr c1) c13 (by omega)) (by decide) : (rfz (σ 31) (letC z v mx 80)) = (upd (σ 31) 6 ((σ 31) 6 + 1))))).trans (show WC G ad (ua (ua (ua σ 1 (σ 1)) 2 (σ 2)) 31 (upd (σ 31) 6 ((σ 31) 6 + 1))) = WC G ad (ua σ 31 (upd (σ 31) 6 ((σ 31) 6 + 1))) from rfl)) dX11_taken_29
  · refine lv_aload_n hx hb dX11_taken_4 rfl (lv_at hl 0 rfl) ?_
    refine lv_bipush (v := (-4)) hx hb dX11_taken_5 (by decide) ?_
    refine x_callVA (ws' := WC G ad (ua σ 31 (upd (σ 31) 4 ((σ 31) 4 + 1)))) (As := [.int (-4)]) (rest := []) (st' := [.int (-4)]) hC hK hZ hA hl.1 hH (k_X11_refused l G ad σ (-4) 4 rfl (by decide)) lk_X11_80 rfl 0 10 rfl rfl rfl ⟨Nat.le_of_ble_eq_true rfl, Nat.le_of_ble_eq_true rfl⟩ ⟨Nat.le_refl _, Nat.le_refl _⟩ (Nat.le_of_ble_eq_true rfl) rfl dX11_taken_7 (fun H locs hH => ?_)
    exact x_iret hC hr hkL hH (by exact rfAk (letC4 (Int32.not_le.mp c1)) (by decide)) ((((congrArg (fun z_ : Nat → Int32 => WC G ad (ua (ua (ua σ 1 z_) 2 (ifz (letC z v mx 80) (upd (σ 2) z v) (σ 2))) 31 (rfz (σ 31) (letC z v mx 80)))) (by first | exact ifzk (letC4 (Int32.not_le.mp c1)) (by decide) | exact ifzk (letC6 (Int32.not_lt.mpr c1) c13) (by decide) | exact ifzk (letCf (Int32.not_lt.mpr c1) c13 (by omega)) (by decide) | (rw [ifzk (letC4 (Int32.not_le.mp c1)) (by decide), ← hz]; exact upd_id rfl) | (rw [ifzk (letC6 (Int32.not_lt.mpr c1) c13) (by decide), ← hz]; exact upd_id rfl) | (rw [ifzk (letCf (Int32.not_lt.mpr c1) c13 (by omega)) (by decide), ← hz]; exact upd_id rfl) : (upd (σ 1) 1 (nI (ifz (letC z v mx 80) (z + 1) z))) = (σ 1))).trans (congrArg (fun z_ : Nat → Int32 => WC G ad (ua (ua (ua σ 1 (σ 1)) 2 z_) 31 (rfz (σ 31) (letC z v mx 80)))) (by first | exact ifzk (letC4 (Int32.not_le.mp c1)) (by decide) | exact ifzk (letC6 (Int32.not_lt.mpr c1) c13) (by decide) | exact ifzk (letCf (Int32.not_lt.mpr c1) c13 (by omega)) (by decide) | (rw [ifzk (letC4 (Int32.not_le.mp c1)) (by decide), ← hz]; exact upd_id rfl) | (rw [ifzk (letC6 (Int32.not_lt.mpr c1) c13) (by decide), ← hz]; exact upd_id rfl) | (rw [ifzk (letCf (Int32.not_lt.mpr c1) c13 (by omega)) (by decide), ← hz]; exact upd_id rfl) : (ifz (letC z v mx 80) (upd (σ 2) z v) (σ 2)) = (σ 2)))).trans (congrArg (fun z_ : Nat → Int32 => WC G ad (ua (ua (ua σ 1 (σ 1)) 2 (σ 2)) 31 z_)) (by exact rfzk (letC4 (Int32.not_le.mp c1)) (by decide) : (rfz (σ 31) (letC z v mx 80)) = (upd (σ 31) 4 ((σ 31) 4 + 1))))).trans (show WC G ad (ua (ua (ua σ 1 (σ 1)) 2 (σ 2)) 31 (upd (σ 31) 4 ((σ 31) 4 + 1))) = WC G ad (ua σ 31 (upd (σ 31) 4 ((σ 31) 4 + 1))) from rfl)) dX11_taken_10
set_option maxHeartbeats 4000000 in
set_option maxRecDepth 100000 in
theorem k_X11_taken_s (l : Launch) (G : GP) (ad : Nat → Nat) (σ : Nat → Nat → Int32) (v : Int32) (mx : Int32) (z : Nat) (hz : (σ 3 1) = nI z) (hzn : z ≤ 4) : CT l G yX11_taken cX11_taken 4 (some .int) 2 [.ref (ad 0), .ref (ad 3), .int v, .int mx] (WC G ad σ) (some (.int (rfA (letC z v mx 4) (nI (z + 1))))) (WC G ad (ua (ua (ua σ 3 (upd (σ 3) 1 (nI (ifz (letC z v mx 4) (z + 1) z)))) 4 (ifz (letC z v mx 4) (upd (σ 4) z v) (σ 4))) 31 (rfz (σ 31) (letC z v mx 4)))) := by
  refine x_meth "BetsOnBets" rfl (by decide +kernel) (by rfl) (Nat.le_of_ble_eq_true rfl) ?_
  intro pP eE sS mM args below meth cC A ls hC hr hkL hK hZ hA hH hl
  have hx := hC.1
  have hb := hC.2.1
  have hl : lv_has ls 4 [(0, .ref (ad 0)), (1, .ref (ad 3)), (2, .int v), (3, .int mx)] := hl
  refine lv_iload_n hx hb dX11_taken_0 rfl (lv_at hl 2 rfl) ?_
  refine lv_if_ge (tgt := 11) hx hb dX11_taken_1 (by decide) (fun c1 => ?_) (fun c1 => ?_)
  · refine lv_iload_n hx hb dX11_taken_11 rfl (lv_at hl 2 rfl) ?_
    refine lv_iload_n hx hb dX11_taken_12 rfl (lv_at hl 3 rfl) ?_
    refine lv_icmp_gt (tgt := 23) hx hb dX11_taken_13 (by decide) (fun c13 => ?_) (fun c13 => ?_)
    · refine lv_aload_n hx hb dX11_taken_23 rfl (lv_at hl 0 rfl) ?_
      refine lv_bipush (v := (-6)) hx hb dX11_taken_24 (by decide) ?_
      refine x_callVA (ws' := WC G ad (ua σ 31 (upd (σ 31) 6 ((σ 31) 6 + 1)))) (As := [.int (-6)]) (rest := []) (st' := [.int (-6)]) hC hK hZ hA hl.1 hH (k_X11_refused l G ad σ (-6) 6 rfl (by decide)) lk_X11_80 rfl 0 10 rfl rfl rfl ⟨Nat.le_of_ble_eq_true rfl, Nat.le_of_ble_eq_true rfl⟩ ⟨Nat.le_refl _, Nat.le_refl _⟩ (Nat.le_of_ble_eq_true rfl) rfl dX11_taken_26 (fun H locs hH => ?_)
      exact x_iret hC hr hkL hH (by first | exact rfAk (letC6 (Int32.not_lt.mpr c1) c13) (by decide) | exact rfAk (letCf (Int32.not_lt.mpr c1) c13 (by omega)) (by decide)) ((((congrArg (fun z_ : Nat → Int32 => WC G ad (ua (ua (ua σ 3 z_) 4 (ifz (letC z v mx 4) (upd (σ 4) z v) (σ 4))) 31 (rfz (σ 31) (letC z v mx 4)))) (by first | exact ifzk (letC4 (Int32.not_le.mp c1)) (by decide) | exact ifzk (letC6 (Int32.not_lt.mpr c1) c13) (by decide) | exact ifzk (letCf (Int32.not_lt.mpr c1) c13 (by omega)) (by decide) | (rw [ifzk (letC4 (Int32.not_le.mp c1)) (by decide), ← hz]; exact upd_id rfl) | (rw [ifzk (letC6 (Int32.not_lt.mpr c1) c13) (by decide), ← hz]; exact upd_id rfl) | (rw [ifzk (letCf (Int32.not_lt.mpr c1) c13 (by omega)) (by decide), ← hz]; exact upd_id rfl) : (upd (σ 3) 1 (nI (ifz (letC z v mx 4) (z + 1) z))) = (σ 3))).trans (congrArg (fun z_ : Nat → Int32 => WC G ad (ua (ua (ua σ 3 (σ 3)) 4 z_) 31 (rfz (σ 31) (letC z v mx 4)))) (by first | exact ifzk (letC4 (Int32.not_le.mp c1)) (by decide) | exact ifzk (letC6 (Int32.not_lt.mpr c1) c13) (by decide) | exact ifzk (letCf (Int32.not_lt.mpr c1) c13 (by omega)) (by decide) | (rw [ifzk (letC4 (Int32.not_le.mp c1)) (by decide), ← hz]; exact upd_id rfl) | (rw [ifzk (letC6 (Int32.not_lt.mpr c1) c13) (by decide), ← hz]; exact upd_id rfl) | (rw [ifzk (letCf (Int32.not_lt.mpr c1) c13 (by omega)) (by decide), ← hz]; exact upd_id rfl) : (ifz (letC z v mx 4) (upd (σ 4) z v) (σ 4)) = (σ 4)))).trans (congrArg (fun z_ : Nat → Int32 => WC G ad (ua (ua (ua σ 3 (σ 3)) 4 (σ 4)) 31 z_)) (by first | exact rfzk (letC6 (Int32.not_lt.mpr c1) c13) (by decide) | exact rfzk (letCf (Int32.not_lt.mpr c1) c13 (by omega)) (by decide) : (rfz (σ 31) (letC z v mx 4)) = (upd (σ 31) 6 ((σ 31) 6 + 1))))).trans (show WC G ad (ua (ua (ua σ 3 (σ 3)) 4 (σ 4)) 31 (upd (σ 31) 6 ((σ 31) 6 + 1))) = WC G ad (ua σ 31 (upd (σ 31) 6 ((σ 31) 6 + 1))) from rfl)) dX11_taken_29
    · refine lv_aload_n hx hb dX11_taken_16 rfl (lv_at hl 1 rfl) ?_
      refine x_callV (ws' := WC G ad σ) (As := []) (rest := []) (st' := [.int (bI (4 ≤ z))]) hC hK hZ hA hl.1 hH (k_X9_isFull l G 4 (pk ad [3, 4]) (pk σ [3, 4]) z hz (by decide) (by omega)) lk_X11_223 [3, 4] rfl rfl rfl 3 8 rfl rfl rfl ⟨Nat.le_of_ble_eq_true rfl, Nat.le_of_ble_eq_true rfl⟩ ⟨Nat.le_refl _, Nat.le_refl _⟩ (Nat.le_of_ble_eq_true rfl) rfl dX11_taken_17 (fun H locs hH => ?_)
      refine x_beq (tgt := 30) hC dX11_taken_20 (by decide) (fun c20 => ?_) (fun c20 => ?_)
      · refine lv_aload_n hx hb dX11_taken_30 rfl (lv_at hl 1 rfl) ?_
        refine lv_iload_n hx hb dX11_taken_31 rfl (lv_at hl 2 rfl) ?_
        refine x_callV (ws' := WC G ad (ua (ua σ 3 (upd (σ 3) 1 (nI (z + 1)))) 4 (upd (σ 4) z v))) (As := [.int v]) (rest := []) (st' := []) hC hK hZ hA hl.1 hH (k_X9_add l G 4 (pk ad [3, 4]) (pk σ [3, 4]) v z hz (by decide) (by omega)) lk_X11_226 [3, 4] rfl rfl rfl 3 8 rfl rfl rfl ⟨Nat.le_of_ble_eq_true rfl, Nat.le_of_ble_eq_true rfl⟩ ⟨Nat.le_refl _, Nat.le_refl _⟩ (Nat.le_of_ble_eq_true rfl) rfl dX11_taken_32 (fun H locs hH => ?_)
        refine lv_aload_n hx hb dX11_taken_35 rfl (lv_at hl 1 rfl) ?_
        refine gf_X11_200 (v := .int (nI (z + 1))) hC hK hH 3 rfl rfl dX11_taken_36 ?_
        exact x_iret hC hr hkL hH (by (refine (rfA0 (letC0 (Int32.not_lt.mpr c1) c13 (by omega))).trans ?_); rfl) ((((congrArg (fun z_ : Nat → Int32 => WC G ad (ua (ua (ua σ 3 z_) 4 (ifz (letC z v mx 4) (upd (σ 4) z v) (σ 4))) 31 (rfz (σ 31) (letC z v mx 4)))) (by first | ((refine (ifz0 (letC0 (Int32.not_lt.mpr c1) c13 (by omega))).trans ?_); rfl) | rw [ifz0 (letC0 (Int32.not_lt.mpr c1) c13 (by omega))] : (upd (σ 3) 1 (nI (ifz (letC z v mx 4) (z + 1) z))) = (upd (σ 3) 1 (nI (z + 1))))).trans (congrArg (fun z_ : Nat → Int32 => WC G ad (ua (ua (ua σ 3 (upd (σ 3) 1 (nI (z + 1)))) 4 z_) 31 (rfz (σ 31) (letC z v mx 4)))) (by first | ((refine (ifz0 (letC0 (Int32.not_lt.mpr c1) c13 (by omega))).trans ?_); rfl) | rw [ifz0 (letC0 (Int32.not_lt.mpr c1) c13 (by omega))] : (ifz (letC z v mx 4) (upd (σ 4) z v) (σ 4)) = (upd (σ 4) z v)))).trans (congrArg (fun z_ : Nat → Int32 => WC G ad (ua (ua (ua σ 3 (upd (σ 3) 1 (nI (z + 1)))) 4 (upd (σ 4) z v)) 31 z_)) (by exact rfz0 (letC0 (Int32.not_lt.mpr c1) c13 (by omega)) : (rfz (σ 31) (letC z v mx 4)) = (σ 31)))).trans (show WC G ad (ua (ua (ua σ 3 (upd (σ 3) 1 (nI (z + 1)))) 4 (upd (σ 4) z v)) 31 (σ 31)) = WC G ad (ua (ua σ 3 (upd (σ 3) 1 (nI (z + 1)))) 4 (upd (σ 4) z v)) from rfl)) dX11_taken_39
      · refine lv_aload_n hx hb dX11_taken_23 rfl (lv_at hl 0 rfl) ?_
        refine lv_bipush (v := (-6)) hx hb dX11_taken_24 (by decide) ?_
        refine x_callVA (ws' := WC G ad (ua σ 31 (upd (σ 31) 6 ((σ 31) 6 + 1)))) (As := [.int (-6)]) (rest := []) (st' := [.int (-6)]) hC hK hZ hA hl.1 hH (k_X11_refused l G ad σ (-6) 6 rfl (by decide)) lk_X11_80 rfl 0 10 rfl rfl rfl ⟨Nat.le_of_ble_eq_true rfl, Nat.le_of_ble_eq_true rfl⟩ ⟨Nat.le_refl _, Nat.le_refl _⟩ (Nat.le_of_ble_eq_true rfl) rfl dX11_taken_26 (fun H locs hH => ?_)
        exact x_iret hC hr hkL hH (by first | exact rfAk (letC6 (Int32.not_lt.mpr c1) c13) (by decide) | exact rfAk (letCf (Int32.not_lt.mpr c1) c13 (by omega)) (by decide)) ((((congrArg (fun z_ : Nat → Int32 => WC G ad (ua (ua (ua σ 3 z_) 4 (ifz (letC z v mx 4) (upd (σ 4) z v) (σ 4))) 31 (rfz (σ 31) (letC z v mx 4)))) (by first | exact ifzk (letC4 (Int32.not_le.mp c1)) (by decide) | exact ifzk (letC6 (Int32.not_lt.mpr c1) c13) (by decide) | exact ifzk (letCf (Int32.not_lt.mpr c1) c13 (by omega)) (by decide) | (rw [ifzk (letC4 (Int32.not_le.mp c1)) (by decide), ← hz]; exact upd_id rfl) | (rw [ifzk (letC6 (Int32.not_lt.mpr c1) c13) (by decide), ← hz]; exact upd_id rfl) | (rw [ifzk (letCf (Int32.not_lt.mpr c1) c13 (by omega)) (by decide), ← hz]; exact upd_id rfl) : (upd (σ 3) 1 (nI (ifz (letC z v mx 4) (z + 1) z))) = (σ 3))).trans (congrArg (fun z_ : Nat → Int32 => WC G ad (ua (ua (ua σ 3 (σ 3)) 4 z_) 31 (rfz (σ 31) (letC z v mx 4)))) (by first | exact ifzk (letC4 (Int32.not_le.mp c1)) (by decide) | exact ifzk (letC6 (Int32.not_lt.mpr c1) c13) (by decide) | exact ifzk (letCf (Int32.not_lt.mpr c1) c13 (by omega)) (by decide) | (rw [ifzk (letC4 (Int32.not_le.mp c1)) (by decide), ← hz]; exact upd_id rfl) | (rw [ifzk (letC6 (Int32.not_lt.mpr c1) c13) (by decide), ← hz]; exact upd_id rfl) | (rw [ifzk (letCf (Int32.not_lt.mpr c1) c13 (by omega)) (by decide), ← hz]; exact upd_id rfl) : (ifz (letC z v mx 4) (upd (σ 4) z v) (σ 4)) = (σ 4)))).trans (congrArg (fun z_ : Nat → Int32 => WC G ad (ua (ua (ua σ 3 (σ 3)) 4 (σ 4)) 31 z_)) (by first | exact rfzk (letC6 (Int32.not_lt.mpr c1) c13) (by decide) | exact rfzk (letCf (Int32.not_lt.mpr c1) c13 (by omega)) (by decide) : (rfz (σ 31) (letC z v mx 4)) = (upd (σ 31) 6 ((σ 31) 6 + 1))))).trans (show WC G ad (ua (ua (ua σ 3 (σ 3)) 4 (σ 4)) 31 (upd (σ 31) 6 ((σ 31) 6 + 1))) = WC G ad (ua σ 31 (upd (σ 31) 6 ((σ 31) 6 + 1))) from rfl)) dX11_taken_29
  · refine lv_aload_n hx hb dX11_taken_4 rfl (lv_at hl 0 rfl) ?_
    refine lv_bipush (v := (-4)) hx hb dX11_taken_5 (by decide) ?_
    refine x_callVA (ws' := WC G ad (ua σ 31 (upd (σ 31) 4 ((σ 31) 4 + 1)))) (As := [.int (-4)]) (rest := []) (st' := [.int (-4)]) hC hK hZ hA hl.1 hH (k_X11_refused l G ad σ (-4) 4 rfl (by decide)) lk_X11_80 rfl 0 10 rfl rfl rfl ⟨Nat.le_of_ble_eq_true rfl, Nat.le_of_ble_eq_true rfl⟩ ⟨Nat.le_refl _, Nat.le_refl _⟩ (Nat.le_of_ble_eq_true rfl) rfl dX11_taken_7 (fun H locs hH => ?_)
    exact x_iret hC hr hkL hH (by exact rfAk (letC4 (Int32.not_le.mp c1)) (by decide)) ((((congrArg (fun z_ : Nat → Int32 => WC G ad (ua (ua (ua σ 3 z_) 4 (ifz (letC z v mx 4) (upd (σ 4) z v) (σ 4))) 31 (rfz (σ 31) (letC z v mx 4)))) (by first | exact ifzk (letC4 (Int32.not_le.mp c1)) (by decide) | exact ifzk (letC6 (Int32.not_lt.mpr c1) c13) (by decide) | exact ifzk (letCf (Int32.not_lt.mpr c1) c13 (by omega)) (by decide) | (rw [ifzk (letC4 (Int32.not_le.mp c1)) (by decide), ← hz]; exact upd_id rfl) | (rw [ifzk (letC6 (Int32.not_lt.mpr c1) c13) (by decide), ← hz]; exact upd_id rfl) | (rw [ifzk (letCf (Int32.not_lt.mpr c1) c13 (by omega)) (by decide), ← hz]; exact upd_id rfl) : (upd (σ 3) 1 (nI (ifz (letC z v mx 4) (z + 1) z))) = (σ 3))).trans (congrArg (fun z_ : Nat → Int32 => WC G ad (ua (ua (ua σ 3 (σ 3)) 4 z_) 31 (rfz (σ 31) (letC z v mx 4)))) (by first | exact ifzk (letC4 (Int32.not_le.mp c1)) (by decide) | exact ifzk (letC6 (Int32.not_lt.mpr c1) c13) (by decide) | exact ifzk (letCf (Int32.not_lt.mpr c1) c13 (by omega)) (by decide) | (rw [ifzk (letC4 (Int32.not_le.mp c1)) (by decide), ← hz]; exact upd_id rfl) | (rw [ifzk (letC6 (Int32.not_lt.mpr c1) c13) (by decide), ← hz]; exact upd_id rfl) | (rw [ifzk (letCf (Int32.not_lt.mpr c1) c13 (by omega)) (by decide), ← hz]; exact upd_id rfl) : (ifz (letC z v mx 4) (upd (σ 4) z v) (σ 4)) = (σ 4)))).trans (congrArg (fun z_ : Nat → Int32 => WC G ad (ua (ua (ua σ 3 (σ 3)) 4 (σ 4)) 31 z_)) (by exact rfzk (letC4 (Int32.not_le.mp c1)) (by decide) : (rfz (σ 31) (letC z v mx 4)) = (upd (σ 31) 4 ((σ 31) 4 + 1))))).trans (show WC G ad (ua (ua (ua σ 3 (σ 3)) 4 (σ 4)) 31 (upd (σ 31) 4 ((σ 31) 4 + 1))) = WC G ad (ua σ 31 (upd (σ 31) 4 ((σ 31) 4 + 1))) from rfl)) dX11_taken_10
set_option maxHeartbeats 4000000 in
set_option maxRecDepth 100000 in
theorem k_X11_letter (l : Launch) (G : GP) (ad : Nat → Nat) (σ : Nat → Nat → Int32) (v : Int32) (z : Nat) (hz : (σ 1 1) = nI z) (hzn : z ≤ 80) : CT l G yX11_letter cX11_letter 2 (some .int) 3 [.ref (ad 0), .int v] (WC G ad σ) (some (.int (rfA (letC z v 255 80) (nI (z + 1))))) (WC G ad (ua (ua (ua σ 1 (upd (σ 1) 1 (nI (ifz (letC z v 255 80) (z + 1) z)))) 2 (ifz (letC z v 255 80) (upd (σ 2) z v) (σ 2))) 31 (rfz (σ 31) (letC z v 255 80)))) := by
  refine x_meth "BetsOnBets" rfl (by decide +kernel) (by rfl) (Nat.le_of_ble_eq_true rfl) ?_
  intro pP eE sS mM args below meth cC A ls hC hr hkL hK hZ hA hH hl
  have hx := hC.1
  have hb := hC.2.1
  have hl : lv_has ls 2 [(0, .ref (ad 0)), (1, .int v)] := hl
  refine lv_aload_n hx hb dX11_letter_0 rfl (lv_at hl 0 rfl) ?_
  refine lv_aload_n hx hb dX11_letter_1 rfl (lv_at hl 0 rfl) ?_
  refine gf_X11_10 (v := .ref (ad 5)) hC hK hH 0 rfl rfl dX11_letter_2 ?_
  refine gf_X11_59 (v := .ref (ad 1)) hC hK hH 5 rfl rfl dX11_letter_5 ?_
  refine lv_iload_n hx hb dX11_letter_8 rfl (lv_at hl 1 rfl) ?_
  refine lv_sipush (v := 255) hx hb dX11_letter_9 (by decide) ?_
  refine x_callVA (ws' := WC G ad (ua (ua (ua σ 1 (upd (σ 1) 1 (nI (ifz (letC z v 255 80) (z + 1) z)))) 2 (ifz (letC z v 255 80) (upd (σ 2) z v) (σ 2))) 31 (rfz (σ 31) (letC z v 255 80)))) (As := [.ref (ad 1), .int v, .int 255]) (rest := []) (st' := [.int (rfA (letC z v 255 80) (nI (z + 1)))]) hC hK hZ hA hl.1 hH (k_X11_taken_l l G ad σ v 255 z hz hzn) lk_X11_62 rfl 0 10 rfl rfl rfl ⟨Nat.le_of_ble_eq_true rfl, Nat.le_of_ble_eq_true rfl⟩ ⟨Nat.le_refl _, Nat.le_refl _⟩ (Nat.le_of_ble_eq_true rfl) rfl dX11_letter_12 (fun H locs hH => ?_)
  exact x_iret hC hr hkL hH rfl rfl dX11_letter_15
set_option maxHeartbeats 4000000 in
set_option maxRecDepth 100000 in
theorem k_X11_row (l : Launch) (G : GP) (ad : Nat → Nat) (σ : Nat → Nat → Int32) (v : Int32) (z : Nat) (hz : (σ 3 1) = nI z) (hzn : z ≤ 4) : CT l G yX11_row cX11_row 2 (some .int) 3 [.ref (ad 0), .int v] (WC G ad σ) (some (.int (rfA (letC z v 999 4) (nI (z + 1))))) (WC G ad (ua (ua (ua σ 3 (upd (σ 3) 1 (nI (ifz (letC z v 999 4) (z + 1) z)))) 4 (ifz (letC z v 999 4) (upd (σ 4) z v) (σ 4))) 31 (rfz (σ 31) (letC z v 999 4)))) := by
  refine x_meth "BetsOnBets" rfl (by decide +kernel) (by rfl) (Nat.le_of_ble_eq_true rfl) ?_
  intro pP eE sS mM args below meth cC A ls hC hr hkL hK hZ hA hH hl
  have hx := hC.1
  have hb := hC.2.1
  have hl : lv_has ls 2 [(0, .ref (ad 0)), (1, .int v)] := hl
  refine lv_aload_n hx hb dX11_row_0 rfl (lv_at hl 0 rfl) ?_
  refine lv_aload_n hx hb dX11_row_1 rfl (lv_at hl 0 rfl) ?_
  refine gf_X11_21 (v := .ref (ad 3)) hC hK hH 0 rfl rfl dX11_row_2 ?_
  refine lv_iload_n hx hb dX11_row_5 rfl (lv_at hl 1 rfl) ?_
  refine lv_sipush (v := 999) hx hb dX11_row_6 (by decide) ?_
  refine x_callVA (ws' := WC G ad (ua (ua (ua σ 3 (upd (σ 3) 1 (nI (ifz (letC z v 999 4) (z + 1) z)))) 4 (ifz (letC z v 999 4) (upd (σ 4) z v) (σ 4))) 31 (rfz (σ 31) (letC z v 999 4)))) (As := [.ref (ad 3), .int v, .int 999]) (rest := []) (st' := [.int (rfA (letC z v 999 4) (nI (z + 1)))]) hC hK hZ hA hl.1 hH (k_X11_taken_s l G ad σ v 999 z hz hzn) lk_X11_62 rfl 0 10 rfl rfl rfl ⟨Nat.le_of_ble_eq_true rfl, Nat.le_of_ble_eq_true rfl⟩ ⟨Nat.le_refl _, Nat.le_refl _⟩ (Nat.le_of_ble_eq_true rfl) rfl dX11_row_9 (fun H locs hH => ?_)
  exact x_iret hC hr hkL hH rfl rfl dX11_row_12
set_option maxHeartbeats 4000000 in
set_option maxRecDepth 100000 in
theorem k_X11_chance (l : Launch) (G : GP) (ad : Nat → Nat) (σ : Nat → Nat → Int32) (v : Int32) (h : Nat) (k : Nat) (hb3 : (σ 7 3) = nI h) (hb4 : (σ 7 4) = nI k) (hh4 : h ≤ 4) (hk6 : k ≤ 6) : CT l G yX11_chance cX11_chance 2 (some .int) 2 [.ref (ad 0), .int v] (WC G ad σ) (some (.int (rfA (hbC v h) ((σ 8) (v).toNatClampNeg)))) (WC G ad (ua σ 31 (rfz (σ 31) (hbC v h)))) := by
  refine x_meth "BetsOnBets" rfl (by decide +kernel) (by rfl) (Nat.le_of_ble_eq_true rfl) ?_
  intro pP eE sS mM args below meth cC A ls hC hr hkL hK hZ hA hH hl
  have hx := hC.1
  have hb := hC.2.1
  have hl : lv_has ls 2 [(0, .ref (ad 0)), (1, .int v)] := hl
  have pwh := pw4 hh4
  have pwk := pw6 hk6
  have ph1 := Nat.one_le_two_pow (n := h)
  refine lv_iload_n hx hb dX11_chance_0 rfl (lv_at hl 1 rfl) ?_
  refine lv_if_lt (tgt := 15) hx hb dX11_chance_1 (by decide) (fun c1 => ?_) (fun c1 => ?_)
  · refine lv_aload_n hx hb dX11_chance_15 rfl (lv_at hl 0 rfl) ?_
    refine lv_iconst (v := (-1)) hx hb dX11_chance_16 (by decide) ?_
    refine x_callVA (ws' := WC G ad (ua σ 31 (upd (σ 31) 1 ((σ 31) 1 + 1)))) (As := [.int (-1)]) (rest := []) (st' := [.int (-1)]) hC hK hZ hA hl.1 hH (k_X11_refused l G ad σ (-1) 1 rfl (by decide)) lk_X11_80 rfl 0 10 rfl rfl rfl ⟨Nat.le_of_ble_eq_true rfl, Nat.le_of_ble_eq_true rfl⟩ ⟨Nat.le_refl _, Nat.le_refl _⟩ (Nat.le_of_ble_eq_true rfl) rfl dX11_chance_17 (fun H locs hH => ?_)
    exact x_iret hC hr hkL hH (by first | exact rfAk (cI_f (inb_f1 c1)) (by decide) | exact rfAk (cI_f (inb_f2 (Int32.not_lt.mp c12))) (by decide)) (congrArg (fun z_ : Nat → Int32 => WC G ad (ua σ 31 z_)) (by first | exact rfzk (cI_f (inb_f1 c1)) (by decide) | exact rfzk (cI_f (inb_f2 (Int32.not_lt.mp c12))) (by decide) : (rfz (σ 31) (hbC v h)) = (upd (σ 31) 1 ((σ 31) 1 + 1)))) dX11_chance_20
  · refine lv_iload_n hx hb dX11_chance_4 rfl (lv_at hl 1 rfl) ?_
    refine lv_aload_n hx hb dX11_chance_5 rfl (lv_at hl 0 rfl) ?_
    refine gf_X11_28 (v := .ref (ad 7)) hC hK hH 0 rfl rfl dX11_chance_6 ?_
    refine gf_X11_76 (v := .int (σ 7 3)) hC hK hH 7 rfl rfl dX11_chance_9 ?_
    refine x_topE (y := (nI h)) hb3 ?_
    refine lv_icmp_lt (tgt := 21) hx hb dX11_chance_12 (by decide) (fun c12 => ?_) (fun c12 => ?_)
    · have in_ : inb v h := inb_t c1 (Int32.not_le.mpr c12)
      obtain ⟨j_, hj_, ev_⟩ := inb_of (by omega) in_
      refine lv_aload_n hx hb dX11_chance_21 rfl (lv_at hl 0 rfl) ?_
      refine gf_X11_28 (v := .ref (ad 7)) hC hK hH 0 rfl rfl dX11_chance_22 ?_
      refine lv_iload_n hx hb dX11_chance_25 rfl (lv_at hl 1 rfl) ?_
      refine x_callV (ws' := WC G ad σ) (As := [.int v]) (rest := []) (st' := [.int ((σ 8) j_)]) hC hK hZ hA hl.1 hH (k_X2_chanceOf l G (pk ad [7, 8, 9, 10]) (pk σ [7, 8, 9, 10]) v j_ ev_ (by omega)) lk_X11_84 [7, 8, 9, 10] rfl rfl rfl 7 1 rfl rfl rfl ⟨Nat.le_of_ble_eq_true rfl, Nat.le_of_ble_eq_true rfl⟩ ⟨Nat.le_refl _, Nat.le_refl _⟩ (Nat.le_of_ble_eq_true rfl) rfl dX11_chance_26 (fun H locs hH => ?_)
      exact x_iret hC hr hkL hH (by (refine (rfA0 (cI_t in_)).trans ?_); rw [ev_, nI_clamp (by omega)]) ((congrArg (fun z_ : Nat → Int32 => WC G ad (ua σ 31 z_)) (by exact rfz0 (cI_t in_) : (rfz (σ 31) (hbC v h)) = (σ 31))).trans (show WC G ad (ua σ 31 (σ 31)) = WC G ad σ from rfl)) dX11_chance_29
    · refine lv_aload_n hx hb dX11_chance_15 rfl (lv_at hl 0 rfl) ?_
      refine lv_iconst (v := (-1)) hx hb dX11_chance_16 (by decide) ?_
      refine x_callVA (ws' := WC G ad (ua σ 31 (upd (σ 31) 1 ((σ 31) 1 + 1)))) (As := [.int (-1)]) (rest := []) (st' := [.int (-1)]) hC hK hZ hA hl.1 hH (k_X11_refused l G ad σ (-1) 1 rfl (by decide)) lk_X11_80 rfl 0 10 rfl rfl rfl ⟨Nat.le_of_ble_eq_true rfl, Nat.le_of_ble_eq_true rfl⟩ ⟨Nat.le_refl _, Nat.le_refl _⟩ (Nat.le_of_ble_eq_true rfl) rfl dX11_chance_17 (fun H locs hH => ?_)
      exact x_iret hC hr hkL hH (by first | exact rfAk (cI_f (inb_f1 c1)) (by decide) | exact rfAk (cI_f (inb_f2 (Int32.not_lt.mp c12))) (by decide)) (congrArg (fun z_ : Nat → Int32 => WC G ad (ua σ 31 z_)) (by first | exact rfzk (cI_f (inb_f1 c1)) (by decide) | exact rfzk (cI_f (inb_f2 (Int32.not_lt.mp c12))) (by decide) : (rfz (σ 31) (hbC v h)) = (upd (σ 31) 1 ((σ 31) 1 + 1)))) dX11_chance_20
set_option maxHeartbeats 4000000 in
set_option maxRecDepth 100000 in
theorem k_X11_bet (l : Launch) (G : GP) (ad : Nat → Nat) (σ : Nat → Nat → Int32) (b : Int32) (w : Int32) (h : Nat) (k : Nat) (hb3 : (σ 7 3) = nI h) (hb4 : (σ 7 4) = nI k) (hh4 : h ≤ 4) (hk6 : k ≤ 6) : CT l G yX11_bet cX11_bet 3 (some .int) 2 [.ref (ad 0), .int b, .int w] (WC G ad σ) (some (.int (rfA (betC k b w) (nm (bk h k (σ 8) (σ 9) (σ 10)) (b).toNatClampNeg (w).toNatClampNeg)))) (WC G ad (ua σ 31 (rfz (σ 31) (betC k b w)))) := by
  refine x_meth "BetsOnBets" rfl (by decide +kernel) (by rfl) (Nat.le_of_ble_eq_true rfl) ?_
  intro pP eE sS mM args below meth cC A ls hC hr hkL hK hZ hA hH hl
  have hx := hC.1
  have hb := hC.2.1
  have hl : lv_has ls 3 [(0, .ref (ad 0)), (1, .int b), (2, .int w)] := hl
  have pwh := pw4 hh4
  have pwk := pw6 hk6
  have ph1 := Nat.one_le_two_pow (n := h)
  refine lv_aload_n hx hb dX11_bet_0 rfl (lv_at hl 0 rfl) ?_
  refine gf_X11_28 (v := .ref (ad 7)) hC hK hH 0 rfl rfl dX11_bet_1 ?_
  refine lv_iload_n hx hb dX11_bet_4 rfl (lv_at hl 1 rfl) ?_
  refine x_callV (ws' := WC G ad σ) (As := [.int b]) (rest := []) (st' := [.int (bI (inb b k))]) hC hK hZ hA hl.1 hH (k_X2_hasBet l G (pk ad [7, 8, 9, 10]) (pk σ [7, 8, 9, 10]) b h k hb3 hb4 hh4 hk6) lk_X11_87 [7, 8, 9, 10] rfl rfl rfl 7 1 rfl rfl rfl ⟨Nat.le_of_ble_eq_true rfl, Nat.le_of_ble_eq_true rfl⟩ ⟨Nat.le_refl _, Nat.le_refl _⟩ (Nat.le_of_ble_eq_true rfl) rfl dX11_bet_5 (fun H locs hH => ?_)
  refine x_bne (tgt := 17) hC dX11_bet_8 (by decide) (fun c8 => ?_) (fun c8 => ?_)
  · refine lv_iload_n hx hb dX11_bet_17 rfl (lv_at hl 2 rfl) ?_
    refine lv_if_lt (tgt := 27) hx hb dX11_bet_18 (by decide) (fun c18 => ?_) (fun c18 => ?_)
    · refine lv_aload_n hx hb dX11_bet_27 rfl (lv_at hl 0 rfl) ?_
      refine lv_bipush (v := (-2)) hx hb dX11_bet_28 (by decide) ?_
      refine x_callVA (ws' := WC G ad (ua σ 31 (upd (σ 31) 2 ((σ 31) 2 + 1)))) (As := [.int (-2)]) (rest := []) (st' := [.int (-2)]) hC hK hZ hA hl.1 hH (k_X11_refused l G ad σ (-2) 2 rfl (by decide)) lk_X11_80 rfl 0 10 rfl rfl rfl ⟨Nat.le_of_ble_eq_true rfl, Nat.le_of_ble_eq_true rfl⟩ ⟨Nat.le_refl _, Nat.le_refl _⟩ (Nat.le_of_ble_eq_true rfl) rfl dX11_bet_30 (fun H locs hH => ?_)
      exact x_iret hC hr hkL hH (by first | exact rfAk ((cI_t c8).trans (cI_f (inb_f1 c18))) (by decide) | exact rfAk ((cI_t c8).trans (cI_f (inb7_n2 c24))) (by decide)) (congrArg (fun z_ : Nat → Int32 => WC G ad (ua σ 31 z_)) (by first | exact rfzk ((cI_t c8).trans (cI_f (inb_f1 c18))) (by decide) | exact rfzk ((cI_t c8).trans (cI_f (inb7_n2 c24))) (by decide) : (rfz (σ 31) (betC k b w)) = (upd (σ 31) 2 ((σ 31) 2 + 1)))) dX11_bet_33
    · refine lv_iload_n hx hb dX11_bet_21 rfl (lv_at hl 2 rfl) ?_
      refine lv_bipush (v := 6) hx hb dX11_bet_22 (by decide) ?_
      refine lv_icmp_le (tgt := 34) hx hb dX11_bet_24 (by decide) (fun c24 => ?_) (fun c24 => ?_)
      · obtain ⟨bj_, hbj_, eb_⟩ := inb_of (by omega) c8
        have in_ : inb w 7 := inb7_t c18 c24
        obtain ⟨wj_, hwj_, ew_⟩ := inb_of (k := 7) (by omega) in_
        refine lv_aload_n hx hb dX11_bet_34 rfl (lv_at hl 0 rfl) ?_
        refine gf_X11_28 (v := .ref (ad 7)) hC hK hH 0 rfl rfl dX11_bet_35 ?_
        refine lv_iload_n hx hb dX11_bet_38 rfl (lv_at hl 1 rfl) ?_
        refine lv_iload_n hx hb dX11_bet_39 rfl (lv_at hl 2 rfl) ?_
        refine x_callV (ws' := WC G ad σ) (As := [.int b, .int w]) (rest := []) (st' := [.int ((σ 9) (7 * bj_ + wj_))]) hC hK hZ hA hl.1 hH (k_X2_numberOf l G (pk ad [7, 8, 9, 10]) (pk σ [7, 8, 9, 10]) b w bj_ wj_ eb_ ew_ (by omega) hwj_) lk_X11_91 [7, 8, 9, 10] rfl rfl rfl 7 1 rfl rfl rfl ⟨Nat.le_of_ble_eq_true rfl, Nat.le_of_ble_eq_true rfl⟩ ⟨Nat.le_refl _, Nat.le_refl _⟩ (Nat.le_of_ble_eq_true rfl) rfl dX11_bet_40 (fun H locs hH => ?_)
        exact x_iret hC hr hkL hH (by (refine (rfA0 ((cI_t c8).trans (cI_t in_))).trans ?_); rw [eb_, ew_, nI_clamp (by omega), nI_clamp (by omega)]; rfl) ((congrArg (fun z_ : Nat → Int32 => WC G ad (ua σ 31 z_)) (by exact rfz0 ((cI_t c8).trans (cI_t in_)) : (rfz (σ 31) (betC k b w)) = (σ 31))).trans (show WC G ad (ua σ 31 (σ 31)) = WC G ad σ from rfl)) dX11_bet_43
      · refine lv_aload_n hx hb dX11_bet_27 rfl (lv_at hl 0 rfl) ?_
        refine lv_bipush (v := (-2)) hx hb dX11_bet_28 (by decide) ?_
        refine x_callVA (ws' := WC G ad (ua σ 31 (upd (σ 31) 2 ((σ 31) 2 + 1)))) (As := [.int (-2)]) (rest := []) (st' := [.int (-2)]) hC hK hZ hA hl.1 hH (k_X11_refused l G ad σ (-2) 2 rfl (by decide)) lk_X11_80 rfl 0 10 rfl rfl rfl ⟨Nat.le_of_ble_eq_true rfl, Nat.le_of_ble_eq_true rfl⟩ ⟨Nat.le_refl _, Nat.le_refl _⟩ (Nat.le_of_ble_eq_true rfl) rfl dX11_bet_30 (fun H locs hH => ?_)
        exact x_iret hC hr hkL hH (by first | exact rfAk ((cI_t c8).trans (cI_f (inb_f1 c18))) (by decide) | exact rfAk ((cI_t c8).trans (cI_f (inb7_n2 c24))) (by decide)) (congrArg (fun z_ : Nat → Int32 => WC G ad (ua σ 31 z_)) (by first | exact rfzk ((cI_t c8).trans (cI_f (inb_f1 c18))) (by decide) | exact rfzk ((cI_t c8).trans (cI_f (inb7_n2 c24))) (by decide) : (rfz (σ 31) (betC k b w)) = (upd (σ 31) 2 ((σ 31) 2 + 1)))) dX11_bet_33
  · refine lv_aload_n hx hb dX11_bet_11 rfl (lv_at hl 0 rfl) ?_
    refine lv_iconst (v := (-1)) hx hb dX11_bet_12 (by decide) ?_
    refine x_callVA (ws' := WC G ad (ua σ 31 (upd (σ 31) 1 ((σ 31) 1 + 1)))) (As := [.int (-1)]) (rest := []) (st' := [.int (-1)]) hC hK hZ hA hl.1 hH (k_X11_refused l G ad σ (-1) 1 rfl (by decide)) lk_X11_80 rfl 0 10 rfl rfl rfl ⟨Nat.le_of_ble_eq_true rfl, Nat.le_of_ble_eq_true rfl⟩ ⟨Nat.le_refl _, Nat.le_refl _⟩ (Nat.le_of_ble_eq_true rfl) rfl dX11_bet_13 (fun H locs hH => ?_)
    exact x_iret hC hr hkL hH (by exact rfAk (cI_f c8) (by decide)) (congrArg (fun z_ : Nat → Int32 => WC G ad (ua σ 31 z_)) (by exact rfzk (cI_f c8) (by decide) : (rfz (σ 31) (betC k b w)) = (upd (σ 31) 1 ((σ 31) 1 + 1)))) dX11_bet_16
set_option maxHeartbeats 4000000 in
set_option maxRecDepth 100000 in
theorem k_X11_set (l : Launch) (G : GP) (ad : Nat → Nat) (σ : Nat → Nat → Int32) (b : Int32) (w : Int32) (v : Int32) (h : Nat) (k : Nat) (hb3 : (σ 7 3) = nI h) (hb4 : (σ 7 4) = nI k) (hh4 : h ≤ 4) (hk6 : k ≤ 6) : CT l G yX11_set cX11_set 7 (some .int) 2 [.ref (ad 0), .int b, .int w, .int v] (WC G ad σ) (some (.int (rfA (setC k b w v) (nm (bk h k (σ 8) (σ 9) (σ 10)) (b).toNatClampNeg (3 + (w).toNatClampNeg))))) (WC G ad (ua (ua σ 9 (ifz (setC k b w v) (upd (σ 9) (7 * (b).toNatClampNeg + (3 + (w).toNatClampNeg)) v) (σ 9))) 31 (rfz (σ 31) (setC k b w v)))) := by
  refine x_meth "BetsOnBets" rfl (by decide +kernel) (by rfl) (Nat.le_of_ble_eq_true rfl) ?_
  intro pP eE sS mM args below meth cC A ls hC hr hkL hK hZ hA hH hl
  have hx := hC.1
  have hb := hC.2.1
  have hl : lv_has ls 7 [(0, .ref (ad 0)), (1, .int b), (2, .int w), (3, .int v)] := hl
  have pwh := pw4 hh4
  have pwk := pw6 hk6
  have ph1 := Nat.one_le_two_pow (n := h)
  refine lv_aload_n hx hb dX11_set_0 rfl (lv_at hl 0 rfl) ?_
  refine gf_X11_28 (v := .ref (ad 7)) hC hK hH 0 rfl rfl dX11_set_1 ?_
  refine lv_iload_n hx hb dX11_set_4 rfl (lv_at hl 1 rfl) ?_
  refine x_callV (ws' := WC G ad σ) (As := [.int b]) (rest := []) (st' := [.int (bI (inb b k))]) hC hK hZ hA hl.1 hH (k_X2_hasBet l G (pk ad [7, 8, 9, 10]) (pk σ [7, 8, 9, 10]) b h k hb3 hb4 hh4 hk6) lk_X11_87 [7, 8, 9, 10] rfl rfl rfl 7 1 rfl rfl rfl ⟨Nat.le_of_ble_eq_true rfl, Nat.le_of_ble_eq_true rfl⟩ ⟨Nat.le_refl _, Nat.le_refl _⟩ (Nat.le_of_ble_eq_true rfl) rfl dX11_set_5 (fun H locs hH => ?_)
  refine x_bne (tgt := 17) hC dX11_set_8 (by decide) (fun c8 => ?_) (fun c8 => ?_)
  · refine lv_iload_n hx hb dX11_set_17 rfl (lv_at hl 2 rfl) ?_
    refine lv_if_eq (tgt := 33) hx hb dX11_set_18 (by decide) (fun c18 => ?_) (fun c18 => ?_)
    · refine lv_iload_n hx hb dX11_set_33 rfl (lv_at hl 2 rfl) ?_
      refine lv_if_ne (tgt := 41) hx hb dX11_set_34 (by decide) (fun c34 => ?_) (fun c34 => ?_)
      · exact absurd c18 c34
      refine lv_iconst (v := 1) hx hb dX11_set_37 (by decide) ?_
      refine lv_goto (tgt := 42) hx hb dX11_set_38 (by decide) ?_
      refine lv_istore (lv' := [(4, .int 1), (0, .ref (ad 0)), (1, .int b), (2, .int w), (3, .int v)]) hx hb dX11_set_42 hl (by decide) rfl (fun ls hl => ?_)
      refine lv_iload_n hx hb dX11_set_44 rfl (lv_at hl 4 rfl) ?_
      refine lv_iload hx hb dX11_set_45 (lv_at hl 0 rfl) ?_
      refine lv_if_eq (tgt := 54) hx hb dX11_set_47 (by decide) (fun c47 => ?_) (fun c47 => ?_)
      · exact absurd c47 (by decide)
      refine lv_iconst (v := 1) hx hb dX11_set_50 (by decide) ?_
      refine lv_goto (tgt := 55) hx hb dX11_set_51 (by decide) ?_
      refine lv_icmp_ge (tgt := 65) hx hb dX11_set_55 (by decide) (fun c55 => ?_) (fun c55 => ?_)
      · have lo_ := Int32.not_lt.mpr c55
        refine lv_iload_n hx hb dX11_set_65 rfl (lv_at hl 4 rfl) ?_
        refine lv_iload hx hb dX11_set_66 (lv_at hl 0 rfl) ?_
        refine lv_if_eq (tgt := 76) hx hb dX11_set_68 (by decide) (fun c68 => ?_) (fun c68 => ?_)
        · exact absurd c68 (by decide)
        refine lv_bipush (v := 99) hx hb dX11_set_71 (by decide) ?_
        refine lv_goto (tgt := 78) hx hb dX11_set_73 (by decide) ?_
        refine lv_icmp_le (tgt := 88) hx hb dX11_set_78 (by decide) (fun c78 => ?_) (fun c78 => ?_)
        · obtain ⟨bj_, hbj_, eb_⟩ := inb_of (by omega) c8
          have nb_ : (b : Int32).toNatClampNeg = bj_ := by rw [eb_]; exact nI_clamp (by omega)
          have nw_ : (w : Int32).toNatClampNeg = 0 := by rw [c18]; rfl
          have z_ := ((setC_s c8 c18).trans (wiC0 (Int32.not_lt.mpr c55) (Int32.not_lt.mpr c78)))
          refine lv_iload hx hb dX11_set_88 (lv_at hl 0 rfl) ?_
          refine lv_if_eq (tgt := 97) hx hb dX11_set_90 (by decide) (fun c90 => ?_) (fun c90 => ?_)
          · exact absurd c90 (by decide)
          refine lv_iconst (v := 3) hx hb dX11_set_93 (by decide) ?_
          refine lv_goto (tgt := 98) hx hb dX11_set_94 (by decide) ?_
          refine lv_istore (lv' := [(5, .int 3), (4, .int 1), (0, .ref (ad 0)), (1, .int b), (2, .int w), (3, .int v)]) hx hb dX11_set_98 hl (by decide) rfl (fun ls hl => ?_)
          refine lv_aload_n hx hb dX11_set_100 rfl (lv_at hl 2 rfl) ?_
          refine gf_X11_28 (v := .ref (ad 7)) hC hK hH 0 rfl rfl dX11_set_101 ?_
          refine lv_iload_n hx hb dX11_set_104 rfl (lv_at hl 3 rfl) ?_
          refine lv_iload hx hb dX11_set_105 (lv_at hl 0 rfl) ?_
          refine x_callV (ws' := WC G ad σ) (As := [.int b, .int 3]) (rest := []) (st' := [.int ((σ 9) (7 * bj_ + 3))]) hC hK hZ hA hl.1 hH (k_X2_numberOf l G (pk ad [7, 8, 9, 10]) (pk σ [7, 8, 9, 10]) b 3 bj_ 3 eb_ rfl (by omega) (by decide)) lk_X11_91 [7, 8, 9, 10] rfl rfl rfl 7 1 rfl rfl rfl ⟨Nat.le_of_ble_eq_true rfl, Nat.le_of_ble_eq_true rfl⟩ ⟨Nat.le_refl _, Nat.le_refl _⟩ (Nat.le_of_ble_eq_true rfl) rfl dX11_set_107 (fun H locs hH => ?_)
          refine lv_istore (lv' := [(6, .int ((σ 9) (7 * bj_ + 3))), (5, .int 3), (4, .int 1), (0, .ref (ad 0)), (1, .int b), (2, .int w), (3, .int v)]) hx hb dX11_set_110 hl (by decide) rfl (fun ls hl => ?_)
          refine lv_aload_n hx hb dX11_set_112 rfl (lv_at hl 3 rfl) ?_
          refine gf_X11_28 (v := .ref (ad 7)) hC hK hH 0 rfl rfl dX11_set_113 ?_
          refine lv_iload_n hx hb dX11_set_116 rfl (lv_at hl 4 rfl) ?_
          refine lv_iload hx hb dX11_set_117 (lv_at hl 1 rfl) ?_
          refine lv_iload_n hx hb dX11_set_119 rfl (lv_at hl 6 rfl) ?_
          refine x_callV (ws' := WC G ad (ua σ 9 (upd (σ 9) (7 * bj_ + 3) v))) (As := [.int b, .int 3, .int v]) (rest := []) (st' := []) hC hK hZ hA hl.1 hH (k_X2_change l G (pk ad [7, 8, 9, 10]) (pk σ [7, 8, 9, 10]) b 3 v bj_ 3 eb_ rfl (by omega) (by decide)) lk_X11_95 [7, 8, 9, 10] rfl rfl rfl 7 1 rfl rfl rfl ⟨Nat.le_of_ble_eq_true rfl, Nat.le_of_ble_eq_true rfl⟩ ⟨Nat.le_refl _, Nat.le_refl _⟩ (Nat.le_of_ble_eq_true rfl) rfl dX11_set_120 (fun H locs hH => ?_)
          refine lv_iload hx hb dX11_set_123 (lv_at hl 0 rfl) ?_
          exact x_iret hC hr hkL hH (by (refine (rfA0 z_).trans ?_); rw [nb_, nw_]; rfl) (((congrArg (fun z_ : Nat → Int32 => WC G ad (ua (ua σ 9 z_) 31 (rfz (σ 31) (setC k b w v)))) (by first | ((refine (ifz0 z_).trans ?_); rw [nb_, nw_]) | rw [ifz0 z_] : (ifz (setC k b w v) (upd (σ 9) (7 * (b).toNatClampNeg + (3 + (w).toNatClampNeg)) v) (σ 9)) = (upd (σ 9) (7 * bj_ + 3) v))).trans (congrArg (fun z_ : Nat → Int32 => WC G ad (ua (ua σ 9 (upd (σ 9) (7 * bj_ + 3) v)) 31 z_)) (by exact rfz0 z_ : (rfz (σ 31) (setC k b w v)) = (σ 31)))).trans (show WC G ad (ua (ua σ 9 (upd (σ 9) (7 * bj_ + 3) v)) 31 (σ 31)) = WC G ad (ua σ 9 (upd (σ 9) (7 * bj_ + 3) v)) from rfl)) dX11_set_125
        · refine lv_aload_n hx hb dX11_set_81 rfl (lv_at hl 1 rfl) ?_
          refine lv_bipush (v := (-6)) hx hb dX11_set_82 (by decide) ?_
          refine x_callVA (ws' := WC G ad (ua σ 31 (upd (σ 31) 6 ((σ 31) 6 + 1)))) (As := [.int (-6)]) (rest := []) (st' := [.int (-6)]) hC hK hZ hA hl.1 hH (k_X11_refused l G ad σ (-6) 6 rfl (by decide)) lk_X11_80 rfl 0 10 rfl rfl rfl ⟨Nat.le_of_ble_eq_true rfl, Nat.le_of_ble_eq_true rfl⟩ ⟨Nat.le_refl _, Nat.le_refl _⟩ (Nat.le_of_ble_eq_true rfl) rfl dX11_set_84 (fun H locs hH => ?_)
          exact x_iret hC hr hkL hH (by first | exact rfAk ((setC_s c8 c18).trans (wiC6 lo_ (Int32.not_le.mp c78))) (by decide) | exact rfAk ((setC_o c8 c23).trans (wiC6 lo_ (Int32.not_le.mp c78))) (by decide)) (((congrArg (fun z_ : Nat → Int32 => WC G ad (ua (ua σ 9 z_) 31 (rfz (σ 31) (setC k b w v)))) (by first | exact ifzk ((setC_s c8 c18).trans (wiC6 lo_ (Int32.not_le.mp c78))) (by decide) | exact ifzk ((setC_o c8 c23).trans (wiC6 lo_ (Int32.not_le.mp c78))) (by decide) : (ifz (setC k b w v) (upd (σ 9) (7 * (b).toNatClampNeg + (3 + (w).toNatClampNeg)) v) (σ 9)) = (σ 9))).trans (congrArg (fun z_ : Nat → Int32 => WC G ad (ua (ua σ 9 (σ 9)) 31 z_)) (by first | exact rfzk ((setC_s c8 c18).trans (wiC6 lo_ (Int32.not_le.mp c78))) (by decide) | exact rfzk ((setC_o c8 c23).trans (wiC6 lo_ (Int32.not_le.mp c78))) (by decide) : (rfz (σ 31) (setC k b w v)) = (upd (σ 31) 6 ((σ 31) 6 + 1))))).trans (show WC G ad (ua (ua σ 9 (σ 9)) 31 (upd (σ 31) 6 ((σ 31) 6 + 1))) = WC G ad (ua σ 31 (upd (σ 31) 6 ((σ 31) 6 + 1))) from rfl)) dX11_set_87
      · refine lv_aload_n hx hb dX11_set_58 rfl (lv_at hl 1 rfl) ?_
        refine lv_bipush (v := (-4)) hx hb dX11_set_59 (by decide) ?_
        refine x_callVA (ws' := WC G ad (ua σ 31 (upd (σ 31) 4 ((σ 31) 4 + 1)))) (As := [.int (-4)]) (rest := []) (st' := [.int (-4)]) hC hK hZ hA hl.1 hH (k_X11_refused l G ad σ (-4) 4 rfl (by decide)) lk_X11_80 rfl 0 10 rfl rfl rfl ⟨Nat.le_of_ble_eq_true rfl, Nat.le_of_ble_eq_true rfl⟩ ⟨Nat.le_refl _, Nat.le_refl _⟩ (Nat.le_of_ble_eq_true rfl) rfl dX11_set_61 (fun H locs hH => ?_)
        exact x_iret hC hr hkL hH (by first | exact rfAk ((setC_s c8 c18).trans (wiC4 (Int32.not_le.mp c55))) (by decide) | exact rfAk ((setC_o c8 c23).trans (wiC4 (Int32.not_le.mp c55))) (by decide)) (((congrArg (fun z_ : Nat → Int32 => WC G ad (ua (ua σ 9 z_) 31 (rfz (σ 31) (setC k b w v)))) (by first | exact ifzk ((setC_s c8 c18).trans (wiC4 (Int32.not_le.mp c55))) (by decide) | exact ifzk ((setC_o c8 c23).trans (wiC4 (Int32.not_le.mp c55))) (by decide) : (ifz (setC k b w v) (upd (σ 9) (7 * (b).toNatClampNeg + (3 + (w).toNatClampNeg)) v) (σ 9)) = (σ 9))).trans (congrArg (fun z_ : Nat → Int32 => WC G ad (ua (ua σ 9 (σ 9)) 31 z_)) (by first | exact rfzk ((setC_s c8 c18).trans (wiC4 (Int32.not_le.mp c55))) (by decide) | exact rfzk ((setC_o c8 c23).trans (wiC4 (Int32.not_le.mp c55))) (by decide) : (rfz (σ 31) (setC k b w v)) = (upd (σ 31) 4 ((σ 31) 4 + 1))))).trans (show WC G ad (ua (ua σ 9 (σ 9)) 31 (upd (σ 31) 4 ((σ 31) 4 + 1))) = WC G ad (ua σ 31 (upd (σ 31) 4 ((σ 31) 4 + 1))) from rfl)) dX11_set_64
    · refine lv_iload_n hx hb dX11_set_21 rfl (lv_at hl 2 rfl) ?_
      refine lv_iconst (v := 1) hx hb dX11_set_22 (by decide) ?_
      refine lv_icmp_eq (tgt := 33) hx hb dX11_set_23 (by decide) (fun c23 => ?_) (fun c23 => ?_)
      · refine lv_iload_n hx hb dX11_set_33 rfl (lv_at hl 2 rfl) ?_
        refine lv_if_ne (tgt := 41) hx hb dX11_set_34 (by decide) (fun c34 => ?_) (fun c34 => ?_)
        rotate_left
        · exact absurd (c34.symm.trans c23) (by decide)
        refine lv_iconst (v := 0) hx hb dX11_set_41 (by decide) ?_
        refine lv_istore (lv' := [(4, .int 0), (0, .ref (ad 0)), (1, .int b), (2, .int w), (3, .int v)]) hx hb dX11_set_42 hl (by decide) rfl (fun ls hl => ?_)
        refine lv_iload_n hx hb dX11_set_44 rfl (lv_at hl 4 rfl) ?_
        refine lv_iload hx hb dX11_set_45 (lv_at hl 0 rfl) ?_
        refine lv_if_eq (tgt := 54) hx hb dX11_set_47 (by decide) (fun c47 => ?_) (fun c47 => ?_)
        rotate_left
        · exact absurd c47 (by decide)
        refine lv_iconst (v := 0) hx hb dX11_set_54 (by decide) ?_
        refine lv_icmp_ge (tgt := 65) hx hb dX11_set_55 (by decide) (fun c55 => ?_) (fun c55 => ?_)
        · have lo_ := Int32.not_lt.mpr c55
          refine lv_iload_n hx hb dX11_set_65 rfl (lv_at hl 4 rfl) ?_
          refine lv_iload hx hb dX11_set_66 (lv_at hl 0 rfl) ?_
          refine lv_if_eq (tgt := 76) hx hb dX11_set_68 (by decide) (fun c68 => ?_) (fun c68 => ?_)
          rotate_left
          · exact absurd c68 (by decide)
          refine lv_bipush (v := 9) hx hb dX11_set_76 (by decide) ?_
          refine lv_icmp_le (tgt := 88) hx hb dX11_set_78 (by decide) (fun c78 => ?_) (fun c78 => ?_)
          · obtain ⟨bj_, hbj_, eb_⟩ := inb_of (by omega) c8
            have nb_ : (b : Int32).toNatClampNeg = bj_ := by rw [eb_]; exact nI_clamp (by omega)
            have nw_ : (w : Int32).toNatClampNeg = 1 := by rw [c23]; rfl
            have z_ := ((setC_o c8 c23).trans (wiC0 (Int32.not_lt.mpr c55) (Int32.not_lt.mpr c78)))
            refine lv_iload hx hb dX11_set_88 (lv_at hl 0 rfl) ?_
            refine lv_if_eq (tgt := 97) hx hb dX11_set_90 (by decide) (fun c90 => ?_) (fun c90 => ?_)
            rotate_left
            · exact absurd c90 (by decide)
            refine lv_iconst (v := 4) hx hb dX11_set_97 (by decide) ?_
            refine lv_istore (lv' := [(5, .int 4), (4, .int 0), (0, .ref (ad 0)), (1, .int b), (2, .int w), (3, .int v)]) hx hb dX11_set_98 hl (by decide) rfl (fun ls hl => ?_)
            refine lv_aload_n hx hb dX11_set_100 rfl (lv_at hl 2 rfl) ?_
            refine gf_X11_28 (v := .ref (ad 7)) hC hK hH 0 rfl rfl dX11_set_101 ?_
            refine lv_iload_n hx hb dX11_set_104 rfl (lv_at hl 3 rfl) ?_
            refine lv_iload hx hb dX11_set_105 (lv_at hl 0 rfl) ?_
            refine x_callV (ws' := WC G ad σ) (As := [.int b, .int 4]) (rest := []) (st' := [.int ((σ 9) (7 * bj_ + 4))]) hC hK hZ hA hl.1 hH (k_X2_numberOf l G (pk ad [7, 8, 9, 10]) (pk σ [7, 8, 9, 10]) b 4 bj_ 4 eb_ rfl (by omega) (by decide)) lk_X11_91 [7, 8, 9, 10] rfl rfl rfl 7 1 rfl rfl rfl ⟨Nat.le_of_ble_eq_true rfl, Nat.le_of_ble_eq_true rfl⟩ ⟨Nat.le_refl _, Nat.le_refl _⟩ (Nat.le_of_ble_eq_true rfl) rfl dX11_set_107 (fun H locs hH => ?_)
            refine lv_istore (lv' := [(6, .int ((σ 9) (7 * bj_ + 4))), (5, .int 4), (4, .int 0), (0, .ref (ad 0)), (1, .int b), (2, .int w), (3, .int v)]) hx hb dX11_set_110 hl (by decide) rfl (fun ls hl => ?_)
            refine lv_aload_n hx hb dX11_set_112 rfl (lv_at hl 3 rfl) ?_
            refine gf_X11_28 (v := .ref (ad 7)) hC hK hH 0 rfl rfl dX11_set_113 ?_
            refine lv_iload_n hx hb dX11_set_116 rfl (lv_at hl 4 rfl) ?_
            refine lv_iload hx hb dX11_set_117 (lv_at hl 1 rfl) ?_
            refine lv_iload_n hx hb dX11_set_119 rfl (lv_at hl 6 rfl) ?_
            refine x_callV (ws' := WC G ad (ua σ 9 (upd (σ 9) (7 * bj_ + 4) v))) (As := [.int b, .int 4, .int v]) (rest := []) (st' := []) hC hK hZ hA hl.1 hH (k_X2_change l G (pk ad [7, 8, 9, 10]) (pk σ [7, 8, 9, 10]) b 4 v bj_ 4 eb_ rfl (by omega) (by decide)) lk_X11_95 [7, 8, 9, 10] rfl rfl rfl 7 1 rfl rfl rfl ⟨Nat.le_of_ble_eq_true rfl, Nat.le_of_ble_eq_true rfl⟩ ⟨Nat.le_refl _, Nat.le_refl _⟩ (Nat.le_of_ble_eq_true rfl) rfl dX11_set_120 (fun H locs hH => ?_)
            refine lv_iload hx hb dX11_set_123 (lv_at hl 0 rfl) ?_
            exact x_iret hC hr hkL hH (by (refine (rfA0 z_).trans ?_); rw [nb_, nw_]; rfl) (((congrArg (fun z_ : Nat → Int32 => WC G ad (ua (ua σ 9 z_) 31 (rfz (σ 31) (setC k b w v)))) (by first | ((refine (ifz0 z_).trans ?_); rw [nb_, nw_]) | rw [ifz0 z_] : (ifz (setC k b w v) (upd (σ 9) (7 * (b).toNatClampNeg + (3 + (w).toNatClampNeg)) v) (σ 9)) = (upd (σ 9) (7 * bj_ + 4) v))).trans (congrArg (fun z_ : Nat → Int32 => WC G ad (ua (ua σ 9 (upd (σ 9) (7 * bj_ + 4) v)) 31 z_)) (by exact rfz0 z_ : (rfz (σ 31) (setC k b w v)) = (σ 31)))).trans (show WC G ad (ua (ua σ 9 (upd (σ 9) (7 * bj_ + 4) v)) 31 (σ 31)) = WC G ad (ua σ 9 (upd (σ 9) (7 * bj_ + 4) v)) from rfl)) dX11_set_125
          · refine lv_aload_n hx hb dX11_set_81 rfl (lv_at hl 1 rfl) ?_
            refine lv_bipush (v := (-6)) hx hb dX11_set_82 (by decide) ?_
            refine x_callVA (ws' := WC G ad (ua σ 31 (upd (σ 31) 6 ((σ 31) 6 + 1)))) (As := [.int (-6)]) (rest := []) (st' := [.int (-6)]) hC hK hZ hA hl.1 hH (k_X11_refused l G ad σ (-6) 6 rfl (by decide)) lk_X11_80 rfl 0 10 rfl rfl rfl ⟨Nat.le_of_ble_eq_true rfl, Nat.le_of_ble_eq_true rfl⟩ ⟨Nat.le_refl _, Nat.le_refl _⟩ (Nat.le_of_ble_eq_true rfl) rfl dX11_set_84 (fun H locs hH => ?_)
            exact x_iret hC hr hkL hH (by first | exact rfAk ((setC_s c8 c18).trans (wiC6 lo_ (Int32.not_le.mp c78))) (by decide) | exact rfAk ((setC_o c8 c23).trans (wiC6 lo_ (Int32.not_le.mp c78))) (by decide)) (((congrArg (fun z_ : Nat → Int32 => WC G ad (ua (ua σ 9 z_) 31 (rfz (σ 31) (setC k b w v)))) (by first | exact ifzk ((setC_s c8 c18).trans (wiC6 lo_ (Int32.not_le.mp c78))) (by decide) | exact ifzk ((setC_o c8 c23).trans (wiC6 lo_ (Int32.not_le.mp c78))) (by decide) : (ifz (setC k b w v) (upd (σ 9) (7 * (b).toNatClampNeg + (3 + (w).toNatClampNeg)) v) (σ 9)) = (σ 9))).trans (congrArg (fun z_ : Nat → Int32 => WC G ad (ua (ua σ 9 (σ 9)) 31 z_)) (by first | exact rfzk ((setC_s c8 c18).trans (wiC6 lo_ (Int32.not_le.mp c78))) (by decide) | exact rfzk ((setC_o c8 c23).trans (wiC6 lo_ (Int32.not_le.mp c78))) (by decide) : (rfz (σ 31) (setC k b w v)) = (upd (σ 31) 6 ((σ 31) 6 + 1))))).trans (show WC G ad (ua (ua σ 9 (σ 9)) 31 (upd (σ 31) 6 ((σ 31) 6 + 1))) = WC G ad (ua σ 31 (upd (σ 31) 6 ((σ 31) 6 + 1))) from rfl)) dX11_set_87
        · refine lv_aload_n hx hb dX11_set_58 rfl (lv_at hl 1 rfl) ?_
          refine lv_bipush (v := (-4)) hx hb dX11_set_59 (by decide) ?_
          refine x_callVA (ws' := WC G ad (ua σ 31 (upd (σ 31) 4 ((σ 31) 4 + 1)))) (As := [.int (-4)]) (rest := []) (st' := [.int (-4)]) hC hK hZ hA hl.1 hH (k_X11_refused l G ad σ (-4) 4 rfl (by decide)) lk_X11_80 rfl 0 10 rfl rfl rfl ⟨Nat.le_of_ble_eq_true rfl, Nat.le_of_ble_eq_true rfl⟩ ⟨Nat.le_refl _, Nat.le_refl _⟩ (Nat.le_of_ble_eq_true rfl) rfl dX11_set_61 (fun H locs hH => ?_)
          exact x_iret hC hr hkL hH (by first | exact rfAk ((setC_s c8 c18).trans (wiC4 (Int32.not_le.mp c55))) (by decide) | exact rfAk ((setC_o c8 c23).trans (wiC4 (Int32.not_le.mp c55))) (by decide)) (((congrArg (fun z_ : Nat → Int32 => WC G ad (ua (ua σ 9 z_) 31 (rfz (σ 31) (setC k b w v)))) (by first | exact ifzk ((setC_s c8 c18).trans (wiC4 (Int32.not_le.mp c55))) (by decide) | exact ifzk ((setC_o c8 c23).trans (wiC4 (Int32.not_le.mp c55))) (by decide) : (ifz (setC k b w v) (upd (σ 9) (7 * (b).toNatClampNeg + (3 + (w).toNatClampNeg)) v) (σ 9)) = (σ 9))).trans (congrArg (fun z_ : Nat → Int32 => WC G ad (ua (ua σ 9 (σ 9)) 31 z_)) (by first | exact rfzk ((setC_s c8 c18).trans (wiC4 (Int32.not_le.mp c55))) (by decide) | exact rfzk ((setC_o c8 c23).trans (wiC4 (Int32.not_le.mp c55))) (by decide) : (rfz (σ 31) (setC k b w v)) = (upd (σ 31) 4 ((σ 31) 4 + 1))))).trans (show WC G ad (ua (ua σ 9 (σ 9)) 31 (upd (σ 31) 4 ((σ 31) 4 + 1))) = WC G ad (ua σ 31 (upd (σ 31) 4 ((σ 31) 4 + 1))) from rfl)) dX11_set_64
      · refine lv_aload_n hx hb dX11_set_26 rfl (lv_at hl 0 rfl) ?_
        refine lv_bipush (v := (-2)) hx hb dX11_set_27 (by decide) ?_
        refine x_callVA (ws' := WC G ad (ua σ 31 (upd (σ 31) 2 ((σ 31) 2 + 1)))) (As := [.int (-2)]) (rest := []) (st' := [.int (-2)]) hC hK hZ hA hl.1 hH (k_X11_refused l G ad σ (-2) 2 rfl (by decide)) lk_X11_80 rfl 0 10 rfl rfl rfl ⟨Nat.le_of_ble_eq_true rfl, Nat.le_of_ble_eq_true rfl⟩ ⟨Nat.le_refl _, Nat.le_refl _⟩ (Nat.le_of_ble_eq_true rfl) rfl dX11_set_29 (fun H locs hH => ?_)
        exact x_iret hC hr hkL hH (by exact rfAk ((cI_t c8).trans (cI_f (inb2_n c18 c23))) (by decide)) (((congrArg (fun z_ : Nat → Int32 => WC G ad (ua (ua σ 9 z_) 31 (rfz (σ 31) (setC k b w v)))) (by exact ifzk ((cI_t c8).trans (cI_f (inb2_n c18 c23))) (by decide) : (ifz (setC k b w v) (upd (σ 9) (7 * (b).toNatClampNeg + (3 + (w).toNatClampNeg)) v) (σ 9)) = (σ 9))).trans (congrArg (fun z_ : Nat → Int32 => WC G ad (ua (ua σ 9 (σ 9)) 31 z_)) (by exact rfzk ((cI_t c8).trans (cI_f (inb2_n c18 c23))) (by decide) : (rfz (σ 31) (setC k b w v)) = (upd (σ 31) 2 ((σ 31) 2 + 1))))).trans (show WC G ad (ua (ua σ 9 (σ 9)) 31 (upd (σ 31) 2 ((σ 31) 2 + 1))) = WC G ad (ua σ 31 (upd (σ 31) 2 ((σ 31) 2 + 1))) from rfl)) dX11_set_32
  · refine lv_aload_n hx hb dX11_set_11 rfl (lv_at hl 0 rfl) ?_
    refine lv_iconst (v := (-1)) hx hb dX11_set_12 (by decide) ?_
    refine x_callVA (ws' := WC G ad (ua σ 31 (upd (σ 31) 1 ((σ 31) 1 + 1)))) (As := [.int (-1)]) (rest := []) (st' := [.int (-1)]) hC hK hZ hA hl.1 hH (k_X11_refused l G ad σ (-1) 1 rfl (by decide)) lk_X11_80 rfl 0 10 rfl rfl rfl ⟨Nat.le_of_ble_eq_true rfl, Nat.le_of_ble_eq_true rfl⟩ ⟨Nat.le_refl _, Nat.le_refl _⟩ (Nat.le_of_ble_eq_true rfl) rfl dX11_set_13 (fun H locs hH => ?_)
    exact x_iret hC hr hkL hH (by exact rfAk (cI_f c8) (by decide)) (((congrArg (fun z_ : Nat → Int32 => WC G ad (ua (ua σ 9 z_) 31 (rfz (σ 31) (setC k b w v)))) (by exact ifzk (cI_f c8) (by decide) : (ifz (setC k b w v) (upd (σ 9) (7 * (b).toNatClampNeg + (3 + (w).toNatClampNeg)) v) (σ 9)) = (σ 9))).trans (congrArg (fun z_ : Nat → Int32 => WC G ad (ua (ua σ 9 (σ 9)) 31 z_)) (by exact rfzk (cI_f c8) (by decide) : (rfz (σ 31) (setC k b w v)) = (upd (σ 31) 1 ((σ 31) 1 + 1))))).trans (show WC G ad (ua (ua σ 9 (σ 9)) 31 (upd (σ 31) 1 ((σ 31) 1 + 1))) = WC G ad (ua σ 31 (upd (σ 31) 1 ((σ 31) 1 + 1))) from rfl)) dX11_set_16
set_option maxHeartbeats 4000000 in
set_option maxRecDepth 100000 in
theorem k_X11_fund (l : Launch) (G : GP) (ad : Nat → Nat) (σ : Nat → Nat → Int32) (p : Int32) (v : Int32) (h : Nat) (k : Nat) (hb3 : (σ 7 3) = nI h) (hb4 : (σ 7 4) = nI k) (hh4 : h ≤ 4) (hk6 : k ≤ 6) : CT l G yX11_fund cX11_fund 4 (some .int) 2 [.ref (ad 0), .int p, .int v] (WC G ad σ) (some (.int (rfA (fundC p v) ((σ 10) (p).toNatClampNeg)))) (WC G ad (ua (ua σ 10 (ifz (fundC p v) (upd (σ 10) (p).toNatClampNeg v) (σ 10))) 31 (rfz (σ 31) (fundC p v)))) := by
  refine x_meth "BetsOnBets" rfl (by decide +kernel) (by rfl) (Nat.le_of_ble_eq_true rfl) ?_
  intro pP eE sS mM args below meth cC A ls hC hr hkL hK hZ hA hH hl
  have hx := hC.1
  have hb := hC.2.1
  have hl : lv_has ls 4 [(0, .ref (ad 0)), (1, .int p), (2, .int v)] := hl
  have pwh := pw4 hh4
  have pwk := pw6 hk6
  have ph1 := Nat.one_le_two_pow (n := h)
  refine lv_iload_n hx hb dX11_fund_0 rfl (lv_at hl 1 rfl) ?_
  refine x_callS (ws' := WC G ad σ) (As := [.int p]) (rest := []) (st' := [.int (bI (0 ≤ p ∧ p < 4))]) hC hK hZ hA hl.1 hH (k_X11_isPerson l G (pk ad []) (pk σ []) p) lk_X11_99 [] rfl rfl rfl rfl ⟨Nat.le_of_ble_eq_true rfl, Nat.le_of_ble_eq_true rfl⟩ ⟨Nat.le_refl _, Nat.le_refl _⟩ (Nat.le_of_ble_eq_true rfl) rfl dX11_fund_1 (fun H locs hH => ?_)
  refine x_bne (tgt := 13) hC dX11_fund_4 (by decide) (fun c4 => ?_) (fun c4 => ?_)
  · refine lv_iload_n hx hb dX11_fund_13 rfl (lv_at hl 2 rfl) ?_
    refine lv_if_ge (tgt := 24) hx hb dX11_fund_14 (by decide) (fun c14 => ?_) (fun c14 => ?_)
    · refine lv_iload_n hx hb dX11_fund_24 rfl (lv_at hl 2 rfl) ?_
      refine lv_bipush (v := 99) hx hb dX11_fund_25 (by decide) ?_
      refine lv_icmp_le (tgt := 37) hx hb dX11_fund_27 (by decide) (fun c27 => ?_) (fun c27 => ?_)
      · obtain ⟨j_, hj_, ev_⟩ := inb_of (k := 4) (by omega) c4
        have nv_ : (p : Int32).toNatClampNeg = j_ := by rw [ev_]; exact nI_clamp (by omega)
        have z_ := ((cI_t c4).trans (wiC0 (Int32.not_lt.mpr c14) (Int32.not_lt.mpr c27)) : fundC p v = 0)
        refine lv_aload_n hx hb dX11_fund_37 rfl (lv_at hl 0 rfl) ?_
        refine gf_X11_28 (v := .ref (ad 7)) hC hK hH 0 rfl rfl dX11_fund_38 ?_
        refine lv_iload_n hx hb dX11_fund_41 rfl (lv_at hl 1 rfl) ?_
        refine x_callV (ws' := WC G ad σ) (As := [.int p]) (rest := []) (st' := [.int ((σ 10) j_)]) hC hK hZ hA hl.1 hH (k_X2_fundOf l G (pk ad [7, 8, 9, 10]) (pk σ [7, 8, 9, 10]) p j_ ev_ (by omega)) lk_X11_102 [7, 8, 9, 10] rfl rfl rfl 7 1 rfl rfl rfl ⟨Nat.le_of_ble_eq_true rfl, Nat.le_of_ble_eq_true rfl⟩ ⟨Nat.le_refl _, Nat.le_refl _⟩ (Nat.le_of_ble_eq_true rfl) rfl dX11_fund_42 (fun H locs hH => ?_)
        refine lv_istore_n (lv' := [(3, .int ((σ 10) j_)), (0, .ref (ad 0)), (1, .int p), (2, .int v)]) hx hb dX11_fund_45 rfl hl (by decide) rfl (fun ls hl => ?_)
        refine lv_aload_n hx hb dX11_fund_46 rfl (lv_at hl 1 rfl) ?_
        refine gf_X11_28 (v := .ref (ad 7)) hC hK hH 0 rfl rfl dX11_fund_47 ?_
        refine lv_iload_n hx hb dX11_fund_50 rfl (lv_at hl 2 rfl) ?_
        refine lv_iload_n hx hb dX11_fund_51 rfl (lv_at hl 3 rfl) ?_
        refine x_callV (ws' := WC G ad (ua σ 10 (upd (σ 10) j_ v))) (As := [.int p, .int v]) (rest := []) (st' := []) hC hK hZ hA hl.1 hH (k_X2_changeFund l G (pk ad [7, 8, 9, 10]) (pk σ [7, 8, 9, 10]) p v j_ ev_ (by omega)) lk_X11_105 [7, 8, 9, 10] rfl rfl rfl 7 1 rfl rfl rfl ⟨Nat.le_of_ble_eq_true rfl, Nat.le_of_ble_eq_true rfl⟩ ⟨Nat.le_refl _, Nat.le_refl _⟩ (Nat.le_of_ble_eq_true rfl) rfl dX11_fund_52 (fun H locs hH => ?_)
        refine lv_iload_n hx hb dX11_fund_55 rfl (lv_at hl 0 rfl) ?_
        exact x_iret hC hr hkL hH (by (refine (rfA0 z_).trans ?_); rw [nv_]) (((congrArg (fun z_ : Nat → Int32 => WC G ad (ua (ua σ 10 z_) 31 (rfz (σ 31) (fundC p v)))) (by first | ((refine (ifz0 z_).trans ?_); rw [nv_]) | rw [ifz0 z_] : (ifz (fundC p v) (upd (σ 10) (p).toNatClampNeg v) (σ 10)) = (upd (σ 10) j_ v))).trans (congrArg (fun z_ : Nat → Int32 => WC G ad (ua (ua σ 10 (upd (σ 10) j_ v)) 31 z_)) (by exact rfz0 z_ : (rfz (σ 31) (fundC p v)) = (σ 31)))).trans (show WC G ad (ua (ua σ 10 (upd (σ 10) j_ v)) 31 (σ 31)) = WC G ad (ua σ 10 (upd (σ 10) j_ v)) from rfl)) dX11_fund_56
      · refine lv_aload_n hx hb dX11_fund_30 rfl (lv_at hl 0 rfl) ?_
        refine lv_bipush (v := (-6)) hx hb dX11_fund_31 (by decide) ?_
        refine x_callVA (ws' := WC G ad (ua σ 31 (upd (σ 31) 6 ((σ 31) 6 + 1)))) (As := [.int (-6)]) (rest := []) (st' := [.int (-6)]) hC hK hZ hA hl.1 hH (k_X11_refused l G ad σ (-6) 6 rfl (by decide)) lk_X11_80 rfl 0 10 rfl rfl rfl ⟨Nat.le_of_ble_eq_true rfl, Nat.le_of_ble_eq_true rfl⟩ ⟨Nat.le_refl _, Nat.le_refl _⟩ (Nat.le_of_ble_eq_true rfl) rfl dX11_fund_33 (fun H locs hH => ?_)
        exact x_iret hC hr hkL hH (by exact rfAk ((cI_t c4).trans (wiC6 (Int32.not_lt.mpr c14) (Int32.not_le.mp c27))) (by decide)) (((congrArg (fun z_ : Nat → Int32 => WC G ad (ua (ua σ 10 z_) 31 (rfz (σ 31) (fundC p v)))) (by exact ifzk ((cI_t c4).trans (wiC6 (Int32.not_lt.mpr c14) (Int32.not_le.mp c27))) (by decide) : (ifz (fundC p v) (upd (σ 10) (p).toNatClampNeg v) (σ 10)) = (σ 10))).trans (congrArg (fun z_ : Nat → Int32 => WC G ad (ua (ua σ 10 (σ 10)) 31 z_)) (by exact rfzk ((cI_t c4).trans (wiC6 (Int32.not_lt.mpr c14) (Int32.not_le.mp c27))) (by decide) : (rfz (σ 31) (fundC p v)) = (upd (σ 31) 6 ((σ 31) 6 + 1))))).trans (show WC G ad (ua (ua σ 10 (σ 10)) 31 (upd (σ 31) 6 ((σ 31) 6 + 1))) = WC G ad (ua σ 31 (upd (σ 31) 6 ((σ 31) 6 + 1))) from rfl)) dX11_fund_36
    · refine lv_aload_n hx hb dX11_fund_17 rfl (lv_at hl 0 rfl) ?_
      refine lv_bipush (v := (-4)) hx hb dX11_fund_18 (by decide) ?_
      refine x_callVA (ws' := WC G ad (ua σ 31 (upd (σ 31) 4 ((σ 31) 4 + 1)))) (As := [.int (-4)]) (rest := []) (st' := [.int (-4)]) hC hK hZ hA hl.1 hH (k_X11_refused l G ad σ (-4) 4 rfl (by decide)) lk_X11_80 rfl 0 10 rfl rfl rfl ⟨Nat.le_of_ble_eq_true rfl, Nat.le_of_ble_eq_true rfl⟩ ⟨Nat.le_refl _, Nat.le_refl _⟩ (Nat.le_of_ble_eq_true rfl) rfl dX11_fund_20 (fun H locs hH => ?_)
      exact x_iret hC hr hkL hH (by exact rfAk ((cI_t c4).trans (wiC4 (Int32.not_le.mp c14))) (by decide)) (((congrArg (fun z_ : Nat → Int32 => WC G ad (ua (ua σ 10 z_) 31 (rfz (σ 31) (fundC p v)))) (by exact ifzk ((cI_t c4).trans (wiC4 (Int32.not_le.mp c14))) (by decide) : (ifz (fundC p v) (upd (σ 10) (p).toNatClampNeg v) (σ 10)) = (σ 10))).trans (congrArg (fun z_ : Nat → Int32 => WC G ad (ua (ua σ 10 (σ 10)) 31 z_)) (by exact rfzk ((cI_t c4).trans (wiC4 (Int32.not_le.mp c14))) (by decide) : (rfz (σ 31) (fundC p v)) = (upd (σ 31) 4 ((σ 31) 4 + 1))))).trans (show WC G ad (ua (ua σ 10 (σ 10)) 31 (upd (σ 31) 4 ((σ 31) 4 + 1))) = WC G ad (ua σ 31 (upd (σ 31) 4 ((σ 31) 4 + 1))) from rfl)) dX11_fund_23
  · refine lv_aload_n hx hb dX11_fund_7 rfl (lv_at hl 0 rfl) ?_
    refine lv_iconst (v := (-1)) hx hb dX11_fund_8 (by decide) ?_
    refine x_callVA (ws' := WC G ad (ua σ 31 (upd (σ 31) 1 ((σ 31) 1 + 1)))) (As := [.int (-1)]) (rest := []) (st' := [.int (-1)]) hC hK hZ hA hl.1 hH (k_X11_refused l G ad σ (-1) 1 rfl (by decide)) lk_X11_80 rfl 0 10 rfl rfl rfl ⟨Nat.le_of_ble_eq_true rfl, Nat.le_of_ble_eq_true rfl⟩ ⟨Nat.le_refl _, Nat.le_refl _⟩ (Nat.le_of_ble_eq_true rfl) rfl dX11_fund_9 (fun H locs hH => ?_)
    exact x_iret hC hr hkL hH (by exact rfAk (cI_f c4) (by decide)) (((congrArg (fun z_ : Nat → Int32 => WC G ad (ua (ua σ 10 z_) 31 (rfz (σ 31) (fundC p v)))) (by exact ifzk (cI_f c4) (by decide) : (ifz (fundC p v) (upd (σ 10) (p).toNatClampNeg v) (σ 10)) = (σ 10))).trans (congrArg (fun z_ : Nat → Int32 => WC G ad (ua (ua σ 10 (σ 10)) 31 z_)) (by exact rfzk (cI_f c4) (by decide) : (rfz (σ 31) (fundC p v)) = (upd (σ 31) 1 ((σ 31) 1 + 1))))).trans (show WC G ad (ua (ua σ 10 (σ 10)) 31 (upd (σ 31) 1 ((σ 31) 1 + 1))) = WC G ad (ua σ 31 (upd (σ 31) 1 ((σ 31) 1 + 1))) from rfl)) dX11_fund_12
set_option maxHeartbeats 4000000 in
set_option maxRecDepth 100000 in
theorem k_X11_ways (l : Launch) (G : GP) (ad : Nat → Nat) (σ : Nat → Nat → Int32) (e : Int32) (w : Int32) (h : Nat) (k : Nat) (hb3 : (σ 7 3) = nI h) (hb4 : (σ 7 4) = nI k) (hh4 : h ≤ 4) (hk6 : k ≤ 6) (hwe : WyE (bk h k (σ 8) (σ 9) (σ 10)) (σ 21) (σ 22) (σ 23) (σ 24)) : CT l G yX11_ways cX11_ways 3 (some .int) 2 [.ref (ad 0), .int e, .int w] (WC G ad σ) (some (.int (rfA (exC e w (2 ^ h)) (if w = 0 then (fwA (bk h k (σ 8) (σ 9) (σ 10)) e).1 else (fwA (bk h k (σ 8) (σ 9) (σ 10)) e).2.1)))) (WC G ad (ua σ 31 (rfz (σ 31) (exC e w (2 ^ h))))) := by
  refine x_meth "BetsOnBets" rfl (by decide +kernel) (by rfl) (Nat.le_of_ble_eq_true rfl) ?_
  intro pP eE sS mM args below meth cC A ls hC hr hkL hK hZ hA hH hl
  have hx := hC.1
  have hb := hC.2.1
  have hl : lv_has ls 3 [(0, .ref (ad 0)), (1, .int e), (2, .int w)] := hl
  have pwh := pw4 hh4
  have pwk := pw6 hk6
  have ph1 := Nat.one_le_two_pow (n := h)
  refine lv_aload_n hx hb dX11_ways_0 rfl (lv_at hl 0 rfl) ?_
  refine gf_X11_28 (v := .ref (ad 7)) hC hK hH 0 rfl rfl dX11_ways_1 ?_
  refine lv_iload_n hx hb dX11_ways_4 rfl (lv_at hl 1 rfl) ?_
  refine x_callV (ws' := WC G ad σ) (As := [.int e]) (rest := []) (st' := [.int (bI (inb e (2 ^ h)))]) hC hK hZ hA hl.1 hH (k_X2_hasEnd l G (pk ad [7, 8, 9, 10]) (pk σ [7, 8, 9, 10]) e h k hb3 hb4 hh4 hk6) lk_X11_109 [7, 8, 9, 10] rfl rfl rfl 7 1 rfl rfl rfl ⟨Nat.le_of_ble_eq_true rfl, Nat.le_of_ble_eq_true rfl⟩ ⟨Nat.le_refl _, Nat.le_refl _⟩ (Nat.le_of_ble_eq_true rfl) rfl dX11_ways_5 (fun H locs hH => ?_)
  refine x_bne (tgt := 17) hC dX11_ways_8 (by decide) (fun c8 => ?_) (fun c8 => ?_)
  · refine lv_iload_n hx hb dX11_ways_17 rfl (lv_at hl 2 rfl) ?_
    refine lv_if_eq (tgt := 33) hx hb dX11_ways_18 (by decide) (fun c18 => ?_) (fun c18 => ?_)
    · obtain ⟨ej_, hej_, ee_⟩ := inb_of (by omega) c8
      have in_ : inb w 2 := inb2.mpr (by first | exact Or.inl c18 | exact Or.inr c23)
      have we_ := hwe ej_ hej_
      refine lv_iload_n hx hb dX11_ways_33 rfl (lv_at hl 2 rfl) ?_
      refine lv_if_ne (tgt := 48) hx hb dX11_ways_34 (by decide) (fun c34 => ?_) (fun c34 => ?_)
      · refine lv_aload_n hx hb dX11_ways_48 rfl (lv_at hl 0 rfl) ?_
        refine gf_X11_41 (v := .ref (ad 19)) hC hK hH 0 rfl rfl dX11_ways_49 ?_
        refine lv_iload_n hx hb dX11_ways_52 rfl (lv_at hl 1 rfl) ?_
        refine x_callV (ws' := WC G ad σ) (As := [.int e]) (rest := []) (st' := [.int ((σ 22) ej_)]) hC hK hZ hA hl.1 hH (k_X10_firstOf l G (pk ad [19, 20, 21, 22, 23, 24, 25, 26, 27, 28, 29, 30]) (pk σ [19, 20, 21, 22, 23, 24, 25, 26, 27, 28, 29, 30]) e ej_ ee_ (by omega)) lk_X11_115 [19, 20, 21, 22, 23, 24, 25, 26, 27, 28, 29, 30] rfl rfl rfl 19 9 rfl rfl rfl ⟨Nat.le_of_ble_eq_true rfl, Nat.le_of_ble_eq_true rfl⟩ ⟨Nat.le_refl _, Nat.le_refl _⟩ (Nat.le_of_ble_eq_true rfl) rfl dX11_ways_53 (fun H locs hH => ?_)
        exact x_iret hC hr hkL hH (by (refine (rfA0 ((cI_t c8).trans (cI_t in_))).trans ?_); first | (rw [if_pos c34, we_.1, ee_]; rfl) | (rw [if_neg c34, we_.2.1, ee_]; rfl)) ((congrArg (fun z_ : Nat → Int32 => WC G ad (ua σ 31 z_)) (by exact rfz0 ((cI_t c8).trans (cI_t in_)) : (rfz (σ 31) (exC e w (2 ^ h))) = (σ 31))).trans (show WC G ad (ua σ 31 (σ 31)) = WC G ad σ from rfl)) dX11_ways_56
      · refine lv_aload_n hx hb dX11_ways_37 rfl (lv_at hl 0 rfl) ?_
        refine gf_X11_41 (v := .ref (ad 19)) hC hK hH 0 rfl rfl dX11_ways_38 ?_
        refine lv_iload_n hx hb dX11_ways_41 rfl (lv_at hl 1 rfl) ?_
        refine x_callV (ws' := WC G ad σ) (As := [.int e]) (rest := []) (st' := [.int ((σ 21) ej_)]) hC hK hZ hA hl.1 hH (k_X10_howMany l G (pk ad [19, 20, 21, 22, 23, 24, 25, 26, 27, 28, 29, 30]) (pk σ [19, 20, 21, 22, 23, 24, 25, 26, 27, 28, 29, 30]) e ej_ ee_ (by omega)) lk_X11_112 [19, 20, 21, 22, 23, 24, 25, 26, 27, 28, 29, 30] rfl rfl rfl 19 9 rfl rfl rfl ⟨Nat.le_of_ble_eq_true rfl, Nat.le_of_ble_eq_true rfl⟩ ⟨Nat.le_refl _, Nat.le_refl _⟩ (Nat.le_of_ble_eq_true rfl) rfl dX11_ways_42 (fun H locs hH => ?_)
        refine lv_goto (tgt := 56) hx hb dX11_ways_45 (by decide) ?_
        exact x_iret hC hr hkL hH (by (refine (rfA0 ((cI_t c8).trans (cI_t in_))).trans ?_); first | (rw [if_pos c34, we_.1, ee_]; rfl) | (rw [if_neg c34, we_.2.1, ee_]; rfl)) ((congrArg (fun z_ : Nat → Int32 => WC G ad (ua σ 31 z_)) (by exact rfz0 ((cI_t c8).trans (cI_t in_)) : (rfz (σ 31) (exC e w (2 ^ h))) = (σ 31))).trans (show WC G ad (ua σ 31 (σ 31)) = WC G ad σ from rfl)) dX11_ways_56
    · refine lv_iload_n hx hb dX11_ways_21 rfl (lv_at hl 2 rfl) ?_
      refine lv_iconst (v := 1) hx hb dX11_ways_22 (by decide) ?_
      refine lv_icmp_eq (tgt := 33) hx hb dX11_ways_23 (by decide) (fun c23 => ?_) (fun c23 => ?_)
      · obtain ⟨ej_, hej_, ee_⟩ := inb_of (by omega) c8
        have in_ : inb w 2 := inb2.mpr (by first | exact Or.inl c18 | exact Or.inr c23)
        have we_ := hwe ej_ hej_
        refine lv_iload_n hx hb dX11_ways_33 rfl (lv_at hl 2 rfl) ?_
        refine lv_if_ne (tgt := 48) hx hb dX11_ways_34 (by decide) (fun c34 => ?_) (fun c34 => ?_)
        · refine lv_aload_n hx hb dX11_ways_48 rfl (lv_at hl 0 rfl) ?_
          refine gf_X11_41 (v := .ref (ad 19)) hC hK hH 0 rfl rfl dX11_ways_49 ?_
          refine lv_iload_n hx hb dX11_ways_52 rfl (lv_at hl 1 rfl) ?_
          refine x_callV (ws' := WC G ad σ) (As := [.int e]) (rest := []) (st' := [.int ((σ 22) ej_)]) hC hK hZ hA hl.1 hH (k_X10_firstOf l G (pk ad [19, 20, 21, 22, 23, 24, 25, 26, 27, 28, 29, 30]) (pk σ [19, 20, 21, 22, 23, 24, 25, 26, 27, 28, 29, 30]) e ej_ ee_ (by omega)) lk_X11_115 [19, 20, 21, 22, 23, 24, 25, 26, 27, 28, 29, 30] rfl rfl rfl 19 9 rfl rfl rfl ⟨Nat.le_of_ble_eq_true rfl, Nat.le_of_ble_eq_true rfl⟩ ⟨Nat.le_refl _, Nat.le_refl _⟩ (Nat.le_of_ble_eq_true rfl) rfl dX11_ways_53 (fun H locs hH => ?_)
          exact x_iret hC hr hkL hH (by (refine (rfA0 ((cI_t c8).trans (cI_t in_))).trans ?_); first | (rw [if_pos c34, we_.1, ee_]; rfl) | (rw [if_neg c34, we_.2.1, ee_]; rfl)) ((congrArg (fun z_ : Nat → Int32 => WC G ad (ua σ 31 z_)) (by exact rfz0 ((cI_t c8).trans (cI_t in_)) : (rfz (σ 31) (exC e w (2 ^ h))) = (σ 31))).trans (show WC G ad (ua σ 31 (σ 31)) = WC G ad σ from rfl)) dX11_ways_56
        · refine lv_aload_n hx hb dX11_ways_37 rfl (lv_at hl 0 rfl) ?_
          refine gf_X11_41 (v := .ref (ad 19)) hC hK hH 0 rfl rfl dX11_ways_38 ?_
          refine lv_iload_n hx hb dX11_ways_41 rfl (lv_at hl 1 rfl) ?_
          refine x_callV (ws' := WC G ad σ) (As := [.int e]) (rest := []) (st' := [.int ((σ 21) ej_)]) hC hK hZ hA hl.1 hH (k_X10_howMany l G (pk ad [19, 20, 21, 22, 23, 24, 25, 26, 27, 28, 29, 30]) (pk σ [19, 20, 21, 22, 23, 24, 25, 26, 27, 28, 29, 30]) e ej_ ee_ (by omega)) lk_X11_112 [19, 20, 21, 22, 23, 24, 25, 26, 27, 28, 29, 30] rfl rfl rfl 19 9 rfl rfl rfl ⟨Nat.le_of_ble_eq_true rfl, Nat.le_of_ble_eq_true rfl⟩ ⟨Nat.le_refl _, Nat.le_refl _⟩ (Nat.le_of_ble_eq_true rfl) rfl dX11_ways_42 (fun H locs hH => ?_)
          refine lv_goto (tgt := 56) hx hb dX11_ways_45 (by decide) ?_
          exact x_iret hC hr hkL hH (by (refine (rfA0 ((cI_t c8).trans (cI_t in_))).trans ?_); first | (rw [if_pos c34, we_.1, ee_]; rfl) | (rw [if_neg c34, we_.2.1, ee_]; rfl)) ((congrArg (fun z_ : Nat → Int32 => WC G ad (ua σ 31 z_)) (by exact rfz0 ((cI_t c8).trans (cI_t in_)) : (rfz (σ 31) (exC e w (2 ^ h))) = (σ 31))).trans (show WC G ad (ua σ 31 (σ 31)) = WC G ad σ from rfl)) dX11_ways_56
      · refine lv_aload_n hx hb dX11_ways_26 rfl (lv_at hl 0 rfl) ?_
        refine lv_bipush (v := (-2)) hx hb dX11_ways_27 (by decide) ?_
        refine x_callVA (ws' := WC G ad (ua σ 31 (upd (σ 31) 2 ((σ 31) 2 + 1)))) (As := [.int (-2)]) (rest := []) (st' := [.int (-2)]) hC hK hZ hA hl.1 hH (k_X11_refused l G ad σ (-2) 2 rfl (by decide)) lk_X11_80 rfl 0 10 rfl rfl rfl ⟨Nat.le_of_ble_eq_true rfl, Nat.le_of_ble_eq_true rfl⟩ ⟨Nat.le_refl _, Nat.le_refl _⟩ (Nat.le_of_ble_eq_true rfl) rfl dX11_ways_29 (fun H locs hH => ?_)
        exact x_iret hC hr hkL hH (by exact rfAk ((cI_t c8).trans (cI_f (inb2_n c18 c23))) (by decide)) (congrArg (fun z_ : Nat → Int32 => WC G ad (ua σ 31 z_)) (by exact rfzk ((cI_t c8).trans (cI_f (inb2_n c18 c23))) (by decide) : (rfz (σ 31) (exC e w (2 ^ h))) = (upd (σ 31) 2 ((σ 31) 2 + 1)))) dX11_ways_32
  · refine lv_aload_n hx hb dX11_ways_11 rfl (lv_at hl 0 rfl) ?_
    refine lv_iconst (v := (-1)) hx hb dX11_ways_12 (by decide) ?_
    refine x_callVA (ws' := WC G ad (ua σ 31 (upd (σ 31) 1 ((σ 31) 1 + 1)))) (As := [.int (-1)]) (rest := []) (st' := [.int (-1)]) hC hK hZ hA hl.1 hH (k_X11_refused l G ad σ (-1) 1 rfl (by decide)) lk_X11_80 rfl 0 10 rfl rfl rfl ⟨Nat.le_of_ble_eq_true rfl, Nat.le_of_ble_eq_true rfl⟩ ⟨Nat.le_refl _, Nat.le_refl _⟩ (Nat.le_of_ble_eq_true rfl) rfl dX11_ways_13 (fun H locs hH => ?_)
    exact x_iret hC hr hkL hH (by exact rfAk (cI_f c8) (by decide)) (congrArg (fun z_ : Nat → Int32 => WC G ad (ua σ 31 z_)) (by exact rfzk (cI_f c8) (by decide) : (rfz (σ 31) (exC e w (2 ^ h))) = (upd (σ 31) 1 ((σ 31) 1 + 1)))) dX11_ways_16
set_option maxHeartbeats 4000000 in
set_option maxRecDepth 100000 in
theorem k_X11_standing (l : Launch) (G : GP) (ad : Nat → Nat) (σ : Nat → Nat → Int32) (b : Int32) (e : Int32) (h : Nat) (k : Nat) (hb3 : (σ 7 3) = nI h) (hb4 : (σ 7 4) = nI k) (hh4 : h ≤ 4) (hk6 : k ≤ 6) (hwo : WO (bk h k (σ 8) (σ 9) (σ 10)) (σ 23) (σ 24)) : CT l G yX11_standing cX11_standing 3 (some .int) 2 [.ref (ad 0), .int b, .int e] (WC G ad σ) (some (.int (rfA (ebC b k e (2 ^ h)) (stP (bk h k (σ 8) (σ 9) (σ 10)) e (b).toNatClampNeg)))) (WC G ad (ua σ 31 (rfz (σ 31) (ebC b k e (2 ^ h))))) := by
  refine x_meth "BetsOnBets" rfl (by decide +kernel) (by rfl) (Nat.le_of_ble_eq_true rfl) ?_
  intro pP eE sS mM args below meth cC A ls hC hr hkL hK hZ hA hH hl
  have hx := hC.1
  have hb := hC.2.1
  have hl : lv_has ls 3 [(0, .ref (ad 0)), (1, .int b), (2, .int e)] := hl
  have pwh := pw4 hh4
  have pwk := pw6 hk6
  have ph1 := Nat.one_le_two_pow (n := h)
  refine lv_aload_n hx hb dX11_standing_0 rfl (lv_at hl 0 rfl) ?_
  refine gf_X11_28 (v := .ref (ad 7)) hC hK hH 0 rfl rfl dX11_standing_1 ?_
  refine lv_iload_n hx hb dX11_standing_4 rfl (lv_at hl 1 rfl) ?_
  refine x_callV (ws' := WC G ad σ) (As := [.int b]) (rest := []) (st' := [.int (bI (inb b k))]) hC hK hZ hA hl.1 hH (k_X2_hasBet l G (pk ad [7, 8, 9, 10]) (pk σ [7, 8, 9, 10]) b h k hb3 hb4 hh4 hk6) lk_X11_87 [7, 8, 9, 10] rfl rfl rfl 7 1 rfl rfl rfl ⟨Nat.le_of_ble_eq_true rfl, Nat.le_of_ble_eq_true rfl⟩ ⟨Nat.le_refl _, Nat.le_refl _⟩ (Nat.le_of_ble_eq_true rfl) rfl dX11_standing_5 (fun H locs hH => ?_)
  refine x_beq (tgt := 22) hC dX11_standing_8 (by decide) (fun c8 => ?_) (fun c8 => ?_)
  · refine lv_aload_n hx hb dX11_standing_22 rfl (lv_at hl 0 rfl) ?_
    refine lv_iconst (v := (-1)) hx hb dX11_standing_23 (by decide) ?_
    refine x_callVA (ws' := WC G ad (ua σ 31 (upd (σ 31) 1 ((σ 31) 1 + 1)))) (As := [.int (-1)]) (rest := []) (st' := [.int (-1)]) hC hK hZ hA hl.1 hH (k_X11_refused l G ad σ (-1) 1 rfl (by decide)) lk_X11_80 rfl 0 10 rfl rfl rfl ⟨Nat.le_of_ble_eq_true rfl, Nat.le_of_ble_eq_true rfl⟩ ⟨Nat.le_refl _, Nat.le_refl _⟩ (Nat.le_of_ble_eq_true rfl) rfl dX11_standing_24 (fun H locs hH => ?_)
    exact x_iret hC hr hkL hH (by first | exact rfAk (cI_f c8) (by decide) | exact rfAk ((cI_t c8).trans (cI_f c19)) (by decide)) (congrArg (fun z_ : Nat → Int32 => WC G ad (ua σ 31 z_)) (by first | exact rfzk (cI_f c8) (by decide) | exact rfzk ((cI_t c8).trans (cI_f c19)) (by decide) : (rfz (σ 31) (ebC b k e (2 ^ h))) = (upd (σ 31) 1 ((σ 31) 1 + 1)))) dX11_standing_27
  · refine lv_aload_n hx hb dX11_standing_11 rfl (lv_at hl 0 rfl) ?_
    refine gf_X11_28 (v := .ref (ad 7)) hC hK hH 0 rfl rfl dX11_standing_12 ?_
    refine lv_iload_n hx hb dX11_standing_15 rfl (lv_at hl 2 rfl) ?_
    refine x_callV (ws' := WC G ad σ) (As := [.int e]) (rest := []) (st' := [.int (bI (inb e (2 ^ h)))]) hC hK hZ hA hl.1 hH (k_X2_hasEnd l G (pk ad [7, 8, 9, 10]) (pk σ [7, 8, 9, 10]) e h k hb3 hb4 hh4 hk6) lk_X11_109 [7, 8, 9, 10] rfl rfl rfl 7 1 rfl rfl rfl ⟨Nat.le_of_ble_eq_true rfl, Nat.le_of_ble_eq_true rfl⟩ ⟨Nat.le_refl _, Nat.le_refl _⟩ (Nat.le_of_ble_eq_true rfl) rfl dX11_standing_16 (fun H locs hH => ?_)
    refine x_bne (tgt := 28) hC dX11_standing_19 (by decide) (fun c19 => ?_) (fun c19 => ?_)
    · obtain ⟨bj_, hbj_, eb_⟩ := inb_of (by omega) c8
      obtain ⟨ej_, hej_, ee_⟩ := inb_of (by omega) c19
      refine lv_aload_n hx hb dX11_standing_28 rfl (lv_at hl 0 rfl) ?_
      refine gf_X11_41 (v := .ref (ad 19)) hC hK hH 0 rfl rfl dX11_standing_29 ?_
      refine lv_iload_n hx hb dX11_standing_32 rfl (lv_at hl 1 rfl) ?_
      refine lv_iload_n hx hb dX11_standing_33 rfl (lv_at hl 2 rfl) ?_
      refine x_callV (ws' := WC G ad σ) (As := [.int b, .int e]) (rest := []) (st' := [.int (stW ((σ 23) ej_) ((σ 24) ej_) b)]) hC hK hZ hA hl.1 hH (k_X10_standingOf l G (pk ad [19, 20, 21, 22, 23, 24, 25, 26, 27, 28, 29, 30]) (pk σ [19, 20, 21, 22, 23, 24, 25, 26, 27, 28, 29, 30]) b e ej_ ee_ (by omega)) lk_X11_118 [19, 20, 21, 22, 23, 24, 25, 26, 27, 28, 29, 30] rfl rfl rfl 19 9 rfl rfl rfl ⟨Nat.le_of_ble_eq_true rfl, Nat.le_of_ble_eq_true rfl⟩ ⟨Nat.le_refl _, Nat.le_refl _⟩ (Nat.le_of_ble_eq_true rfl) rfl dX11_standing_34 (fun H locs hH => ?_)
      exact x_iret hC hr hkL hH (by (refine (rfA0 ((cI_t c8).trans (cI_t c19))).trans ?_); rw [eb_, nI_clamp (by omega), ee_]; exact (hwo ej_ hej_ bj_ hbj_).symm) ((congrArg (fun z_ : Nat → Int32 => WC G ad (ua σ 31 z_)) (by exact rfz0 ((cI_t c8).trans (cI_t c19)) : (rfz (σ 31) (ebC b k e (2 ^ h))) = (σ 31))).trans (show WC G ad (ua σ 31 (σ 31)) = WC G ad σ from rfl)) dX11_standing_37
    · refine lv_aload_n hx hb dX11_standing_22 rfl (lv_at hl 0 rfl) ?_
      refine lv_iconst (v := (-1)) hx hb dX11_standing_23 (by decide) ?_
      refine x_callVA (ws' := WC G ad (ua σ 31 (upd (σ 31) 1 ((σ 31) 1 + 1)))) (As := [.int (-1)]) (rest := []) (st' := [.int (-1)]) hC hK hZ hA hl.1 hH (k_X11_refused l G ad σ (-1) 1 rfl (by decide)) lk_X11_80 rfl 0 10 rfl rfl rfl ⟨Nat.le_of_ble_eq_true rfl, Nat.le_of_ble_eq_true rfl⟩ ⟨Nat.le_refl _, Nat.le_refl _⟩ (Nat.le_of_ble_eq_true rfl) rfl dX11_standing_24 (fun H locs hH => ?_)
      exact x_iret hC hr hkL hH (by first | exact rfAk (cI_f c8) (by decide) | exact rfAk ((cI_t c8).trans (cI_f c19)) (by decide)) (congrArg (fun z_ : Nat → Int32 => WC G ad (ua σ 31 z_)) (by first | exact rfzk (cI_f c8) (by decide) | exact rfzk ((cI_t c8).trans (cI_f c19)) (by decide) : (rfz (σ 31) (ebC b k e (2 ^ h))) = (upd (σ 31) 1 ((σ 31) 1 + 1)))) dX11_standing_27
set_option maxHeartbeats 4000000 in
set_option maxRecDepth 100000 in
theorem k_X11_purse (l : Launch) (G : GP) (ad : Nat → Nat) (σ : Nat → Nat → Int32) (p : Int32) (e : Int32) (h : Nat) (k : Nat) (hb3 : (σ 7 3) = nI h) (hb4 : (σ 7 4) = nI k) (hh4 : h ≤ 4) (hk6 : k ≤ 6) (hwo : WO (bk h k (σ 8) (σ 9) (σ 10)) (σ 23) (σ 24)) (hbh : BH (bk h k (σ 8) (σ 9) (σ 10))) : CT l G yX11_purse cX11_purse 3 (some .int) 4 [.ref (ad 0), .int p, .int e] (WC G ad σ) (some (.int (rfB (ebC p 4 e (2 ^ h)) (purA (bk h k (σ 8) (σ 9) (σ 10)) p e)))) (WC G ad (ua σ 31 (rfz (σ 31) (ebC p 4 e (2 ^ h))))) := by
  refine x_meth "BetsOnBets" rfl (by decide +kernel) (by rfl) (Nat.le_of_ble_eq_true rfl) ?_
  intro pP eE sS mM args below meth cC A ls hC hr hkL hK hZ hA hH hl
  have hx := hC.1
  have hb := hC.2.1
  have hl : lv_has ls 3 [(0, .ref (ad 0)), (1, .int p), (2, .int e)] := hl
  have pwh := pw4 hh4
  have pwk := pw6 hk6
  have ph1 := Nat.one_le_two_pow (n := h)
  refine lv_iload_n hx hb dX11_purse_0 rfl (lv_at hl 1 rfl) ?_
  refine x_callS (ws' := WC G ad σ) (As := [.int p]) (rest := []) (st' := [.int (bI (0 ≤ p ∧ p < 4))]) hC hK hZ hA hl.1 hH (k_X11_isPerson l G (pk ad []) (pk σ []) p) lk_X11_99 [] rfl rfl rfl rfl ⟨Nat.le_of_ble_eq_true rfl, Nat.le_of_ble_eq_true rfl⟩ ⟨Nat.le_refl _, Nat.le_refl _⟩ (Nat.le_of_ble_eq_true rfl) rfl dX11_purse_1 (fun H locs hH => ?_)
  refine x_beq (tgt := 18) hC dX11_purse_4 (by decide) (fun c4 => ?_) (fun c4 => ?_)
  · refine lv_aload_n hx hb dX11_purse_18 rfl (lv_at hl 0 rfl) ?_
    refine lv_iconst (v := (-1)) hx hb dX11_purse_19 (by decide) ?_
    refine x_callVA (ws' := WC G ad (ua σ 31 (upd (σ 31) 1 ((σ 31) 1 + 1)))) (As := [.int (-1)]) (rest := []) (st' := [.int (1000000000 - (-1))]) hC hK hZ hA hl.1 hH (k_X11_refusedFar l G ad σ (-1) 1 rfl (by decide)) lk_X11_121 rfl 0 10 rfl rfl rfl ⟨Nat.le_of_ble_eq_true rfl, Nat.le_of_ble_eq_true rfl⟩ ⟨Nat.le_refl _, Nat.le_refl _⟩ (Nat.le_of_ble_eq_true rfl) rfl dX11_purse_20 (fun H locs hH => ?_)
    exact x_iret hC hr hkL hH (by first | exact rfBk (cI_f c4) (by decide) | exact rfBk ((cI_t c4).trans (cI_f c15)) (by decide)) (congrArg (fun z_ : Nat → Int32 => WC G ad (ua σ 31 z_)) (by first | exact rfzk (cI_f c4) (by decide) | exact rfzk ((cI_t c4).trans (cI_f c15)) (by decide) : (rfz (σ 31) (ebC p 4 e (2 ^ h))) = (upd (σ 31) 1 ((σ 31) 1 + 1)))) dX11_purse_23
  · refine lv_aload_n hx hb dX11_purse_7 rfl (lv_at hl 0 rfl) ?_
    refine gf_X11_28 (v := .ref (ad 7)) hC hK hH 0 rfl rfl dX11_purse_8 ?_
    refine lv_iload_n hx hb dX11_purse_11 rfl (lv_at hl 2 rfl) ?_
    refine x_callV (ws' := WC G ad σ) (As := [.int e]) (rest := []) (st' := [.int (bI (inb e (2 ^ h)))]) hC hK hZ hA hl.1 hH (k_X2_hasEnd l G (pk ad [7, 8, 9, 10]) (pk σ [7, 8, 9, 10]) e h k hb3 hb4 hh4 hk6) lk_X11_109 [7, 8, 9, 10] rfl rfl rfl 7 1 rfl rfl rfl ⟨Nat.le_of_ble_eq_true rfl, Nat.le_of_ble_eq_true rfl⟩ ⟨Nat.le_refl _, Nat.le_refl _⟩ (Nat.le_of_ble_eq_true rfl) rfl dX11_purse_12 (fun H locs hH => ?_)
    refine x_bne (tgt := 24) hC dX11_purse_15 (by decide) (fun c15 => ?_) (fun c15 => ?_)
    · obtain ⟨ej_, hej_, ee_⟩ := inb_of (by omega) c15
      refine lv_aload_n hx hb dX11_purse_24 rfl (lv_at hl 0 rfl) ?_
      refine lv_aload_n hx hb dX11_purse_25 rfl (lv_at hl 0 rfl) ?_
      refine gf_X11_28 (v := .ref (ad 7)) hC hK hH 0 rfl rfl dX11_purse_26 ?_
      refine lv_iload_n hx hb dX11_purse_29 rfl (lv_at hl 1 rfl) ?_
      refine lv_iload_n hx hb dX11_purse_30 rfl (lv_at hl 2 rfl) ?_
      refine x_callVA (ws' := WC G ad σ) (As := [.ref (ad 7), .int p, .int e]) (rest := []) (st' := [.int (purA (bk h k (σ 8) (σ 9) (σ 10)) p e)]) hC hK hZ hA hl.1 hH (k_X11_purseOf_t l G ad σ p e h k ej_ hb3 hb4 hh4 hk6 hwo hbh ee_ hej_) lk_X11_124 rfl 0 10 rfl rfl rfl ⟨Nat.le_of_ble_eq_true rfl, Nat.le_of_ble_eq_true rfl⟩ ⟨Nat.le_refl _, Nat.le_refl _⟩ (Nat.le_of_ble_eq_true rfl) rfl dX11_purse_31 (fun H locs hH => ?_)
      exact x_iret hC hr hkL hH (by (refine (rfB0 ((cI_t c4).trans (cI_t c15))).trans ?_); rfl) ((congrArg (fun z_ : Nat → Int32 => WC G ad (ua σ 31 z_)) (by exact rfz0 ((cI_t c4).trans (cI_t c15)) : (rfz (σ 31) (ebC p 4 e (2 ^ h))) = (σ 31))).trans (show WC G ad (ua σ 31 (σ 31)) = WC G ad σ from rfl)) dX11_purse_34
    · refine lv_aload_n hx hb dX11_purse_18 rfl (lv_at hl 0 rfl) ?_
      refine lv_iconst (v := (-1)) hx hb dX11_purse_19 (by decide) ?_
      refine x_callVA (ws' := WC G ad (ua σ 31 (upd (σ 31) 1 ((σ 31) 1 + 1)))) (As := [.int (-1)]) (rest := []) (st' := [.int (1000000000 - (-1))]) hC hK hZ hA hl.1 hH (k_X11_refusedFar l G ad σ (-1) 1 rfl (by decide)) lk_X11_121 rfl 0 10 rfl rfl rfl ⟨Nat.le_of_ble_eq_true rfl, Nat.le_of_ble_eq_true rfl⟩ ⟨Nat.le_refl _, Nat.le_refl _⟩ (Nat.le_of_ble_eq_true rfl) rfl dX11_purse_20 (fun H locs hH => ?_)
      exact x_iret hC hr hkL hH (by first | exact rfBk (cI_f c4) (by decide) | exact rfBk ((cI_t c4).trans (cI_f c15)) (by decide)) (congrArg (fun z_ : Nat → Int32 => WC G ad (ua σ 31 z_)) (by first | exact rfzk (cI_f c4) (by decide) | exact rfzk ((cI_t c4).trans (cI_f c15)) (by decide) : (rfz (σ 31) (ebC p 4 e (2 ^ h))) = (upd (σ 31) 1 ((σ 31) 1 + 1)))) dX11_purse_23
set_option maxHeartbeats 4000000 in
set_option maxRecDepth 100000 in
theorem k_X11_mean (l : Launch) (G : GP) (ad : Nat → Nat) (σ : Nat → Nat → Int32) (p : Int32) (h : Nat) (k : Nat) (hb3 : (σ 7 3) = nI h) (hb4 : (σ 7 4) = nI k) (hh4 : h ≤ 4) (hk6 : k ≤ 6) (hwo : WO (bk h k (σ 8) (σ 9) (σ 10)) (σ 23) (σ 24)) (hbh : BH (bk h k (σ 8) (σ 9) (σ 10))) : CT l G yX11_mean cX11_mean 2 (some .int) 5 [.ref (ad 0), .int p] (WC G ad σ) (some (.int (rfB (hbC p 4) (meanA (bk h k (σ 8) (σ 9) (σ 10)) p)))) (WC G ad (ua σ 31 (rfz (σ 31) (hbC p 4)))) := by
  refine x_meth "BetsOnBets" rfl (by decide +kernel) (by rfl) (Nat.le_of_ble_eq_true rfl) ?_
  intro pP eE sS mM args below meth cC A ls hC hr hkL hK hZ hA hH hl
  have hx := hC.1
  have hb := hC.2.1
  have hl : lv_has ls 2 [(0, .ref (ad 0)), (1, .int p)] := hl
  have pwh := pw4 hh4
  have pwk := pw6 hk6
  have ph1 := Nat.one_le_two_pow (n := h)
  refine lv_iload_n hx hb dX11_mean_0 rfl (lv_at hl 1 rfl) ?_
  refine x_callS (ws' := WC G ad σ) (As := [.int p]) (rest := []) (st' := [.int (bI (0 ≤ p ∧ p < 4))]) hC hK hZ hA hl.1 hH (k_X11_isPerson l G (pk ad []) (pk σ []) p) lk_X11_99 [] rfl rfl rfl rfl ⟨Nat.le_of_ble_eq_true rfl, Nat.le_of_ble_eq_true rfl⟩ ⟨Nat.le_refl _, Nat.le_refl _⟩ (Nat.le_of_ble_eq_true rfl) rfl dX11_mean_1 (fun H locs hH => ?_)
  refine x_beq (tgt := 19) hC dX11_mean_4 (by decide) (fun c4 => ?_) (fun c4 => ?_)
  · refine lv_aload_n hx hb dX11_mean_19 rfl (lv_at hl 0 rfl) ?_
    refine lv_iconst (v := (-1)) hx hb dX11_mean_20 (by decide) ?_
    refine x_callVA (ws' := WC G ad (ua σ 31 (upd (σ 31) 1 ((σ 31) 1 + 1)))) (As := [.int (-1)]) (rest := []) (st' := [.int (1000000000 - (-1))]) hC hK hZ hA hl.1 hH (k_X11_refusedFar l G ad σ (-1) 1 rfl (by decide)) lk_X11_121 rfl 0 10 rfl rfl rfl ⟨Nat.le_of_ble_eq_true rfl, Nat.le_of_ble_eq_true rfl⟩ ⟨Nat.le_refl _, Nat.le_refl _⟩ (Nat.le_of_ble_eq_true rfl) rfl dX11_mean_21 (fun H locs hH => ?_)
    exact x_iret hC hr hkL hH (by exact rfBk (cI_f c4) (by decide)) (congrArg (fun z_ : Nat → Int32 => WC G ad (ua σ 31 z_)) (by exact rfzk (cI_f c4) (by decide) : (rfz (σ 31) (hbC p 4)) = (upd (σ 31) 1 ((σ 31) 1 + 1)))) dX11_mean_24
  · refine lv_aload_n hx hb dX11_mean_7 rfl (lv_at hl 0 rfl) ?_
    refine lv_aload_n hx hb dX11_mean_8 rfl (lv_at hl 0 rfl) ?_
    refine gf_X11_28 (v := .ref (ad 7)) hC hK hH 0 rfl rfl dX11_mean_9 ?_
    refine lv_iload_n hx hb dX11_mean_12 rfl (lv_at hl 1 rfl) ?_
    refine x_callVA (ws' := WC G ad σ) (As := [.ref (ad 7), .int p]) (rest := []) (st' := [.int (meanA (bk h k (σ 8) (σ 9) (σ 10)) p)]) hC hK hZ hA hl.1 hH (k_X11_meanOf_t l G ad σ p h k hb3 hb4 hh4 hk6 hwo hbh) lk_X11_128 rfl 0 10 rfl rfl rfl ⟨Nat.le_of_ble_eq_true rfl, Nat.le_of_ble_eq_true rfl⟩ ⟨Nat.le_refl _, Nat.le_refl _⟩ (Nat.le_of_ble_eq_true rfl) rfl dX11_mean_13 (fun H locs hH => ?_)
    refine lv_goto (tgt := 24) hx hb dX11_mean_16 (by decide) ?_
    exact x_iret hC hr hkL hH (by (refine (rfB0 (cI_t c4)).trans ?_); rfl) ((congrArg (fun z_ : Nat → Int32 => WC G ad (ua σ 31 z_)) (by exact rfz0 (cI_t c4) : (rfz (σ 31) (hbC p 4)) = (σ 31))).trans (show WC G ad (ua σ 31 (σ 31)) = WC G ad σ from rfl)) dX11_mean_24
set_option maxHeartbeats 4000000 in
set_option maxRecDepth 100000 in
theorem k_X11_extreme_m (l : Launch) (G : GP) (ad : Nat → Nat) (σ : Nat → Nat → Int32) (p : Int32) (w : Int32) (sg : Int32) (h : Nat) (k : Nat) (hb3 : (σ 7 3) = nI h) (hb4 : (σ 7 4) = nI k) (hh4 : h ≤ 4) (hk6 : k ≤ 6) (hwo : WO (bk h k (σ 8) (σ 9) (σ 10)) (σ 23) (σ 24)) (hbh : BH (bk h k (σ 8) (σ 9) (σ 10))) (hpb : PB (bk h k (σ 8) (σ 9) (σ 10))) (hsg : sg = (-1)) : CT l G yX11_extreme cX11_extreme 5 (some .int) 5 [.ref (ad 0), .int p, .int w, .int sg] (WC G ad σ) (some (.int (rfB (exC p w 4) (if w = 0 then worV (bk h k (σ 8) (σ 9) (σ 10)) p else nI (wEA (bk h k (σ 8) (σ 9) (σ 10)) p))))) (WC G ad (ua σ 31 (rfz (σ 31) (exC p w 4)))) := by
  refine x_meth "BetsOnBets" rfl (by decide +kernel) (by rfl) (Nat.le_of_ble_eq_true rfl) ?_
  intro pP eE sS mM args below meth cC A ls hC hr hkL hK hZ hA hH hl
  have hx := hC.1
  have hb := hC.2.1
  have hl : lv_has ls 5 [(0, .ref (ad 0)), (1, .int p), (2, .int w), (3, .int sg)] := hl
  have pwh := pw4 hh4
  have pwk := pw6 hk6
  have ph1 := Nat.one_le_two_pow (n := h)
  refine lv_iload_n hx hb dX11_extreme_0 rfl (lv_at hl 1 rfl) ?_
  refine x_callS (ws' := WC G ad σ) (As := [.int p]) (rest := []) (st' := [.int (bI (0 ≤ p ∧ p < 4))]) hC hK hZ hA hl.1 hH (k_X11_isPerson l G (pk ad []) (pk σ []) p) lk_X11_99 [] rfl rfl rfl rfl ⟨Nat.le_of_ble_eq_true rfl, Nat.le_of_ble_eq_true rfl⟩ ⟨Nat.le_refl _, Nat.le_refl _⟩ (Nat.le_of_ble_eq_true rfl) rfl dX11_extreme_1 (fun H locs hH => ?_)
  refine x_bne (tgt := 13) hC dX11_extreme_4 (by decide) (fun c4 => ?_) (fun c4 => ?_)
  · refine lv_iload_n hx hb dX11_extreme_13 rfl (lv_at hl 2 rfl) ?_
    refine lv_if_eq (tgt := 29) hx hb dX11_extreme_14 (by decide) (fun c14 => ?_) (fun c14 => ?_)
    · refine lv_aload_n hx hb dX11_extreme_29 rfl (lv_at hl 0 rfl) ?_
      refine lv_aload_n hx hb dX11_extreme_30 rfl (lv_at hl 0 rfl) ?_
      refine gf_X11_28 (v := .ref (ad 7)) hC hK hH 0 rfl rfl dX11_extreme_31 ?_
      refine lv_iload_n hx hb dX11_extreme_34 rfl (lv_at hl 1 rfl) ?_
      refine lv_iload_n hx hb dX11_extreme_35 rfl (lv_at hl 3 rfl) ?_
      refine x_callVA (ws' := WC G ad σ) (As := [.ref (ad 7), .int p, .int sg]) (rest := []) (st' := [.int (nI (wEA (bk h k (σ 8) (σ 9) (σ 10)) p))]) hC hK hZ hA hl.1 hH (k_X11_extremeEnd_tm l G ad σ p sg h k hb3 hb4 hh4 hk6 hwo hbh hpb hsg) lk_X11_136 rfl 0 10 rfl rfl rfl ⟨Nat.le_of_ble_eq_true rfl, Nat.le_of_ble_eq_true rfl⟩ ⟨Nat.le_refl _, Nat.le_refl _⟩ (Nat.le_of_ble_eq_true rfl) rfl dX11_extreme_36 (fun H locs hH => ?_)
      refine lv_istore (lv' := [(4, .int (nI (wEA (bk h k (σ 8) (σ 9) (σ 10)) p))), (0, .ref (ad 0)), (1, .int p), (2, .int w), (3, .int sg)]) hx hb dX11_extreme_39 hl (by decide) rfl (fun ls hl => ?_)
      refine lv_iload_n hx hb dX11_extreme_41 rfl (lv_at hl 3 rfl) ?_
      refine lv_if_ne (tgt := 59) hx hb dX11_extreme_42 (by decide) (fun c42 => ?_) (fun c42 => ?_)
      · refine lv_iload hx hb dX11_extreme_59 (lv_at hl 0 rfl) ?_
        exact x_iret hC hr hkL hH (by (first | refine (rfB0 ((cI_t c4).trans (cI_t (inb2.mpr (Or.inl c14))))).trans ?_ | refine (rfB0 ((cI_t c4).trans (cI_t (inb2.mpr (Or.inr c19))))).trans ?_); first | exact if_pos c42 | exact if_neg c42) ((congrArg (fun z_ : Nat → Int32 => WC G ad (ua σ 31 z_)) (by first | exact rfz0 ((cI_t c4).trans (cI_t (inb2.mpr (Or.inl c14)))) | exact rfz0 ((cI_t c4).trans (cI_t (inb2.mpr (Or.inr c19)))) : (rfz (σ 31) (exC p w 4)) = (σ 31))).trans (show WC G ad (ua σ 31 (σ 31)) = WC G ad σ from rfl)) dX11_extreme_61
      · refine lv_aload_n hx hb dX11_extreme_45 rfl (lv_at hl 1 rfl) ?_
        refine lv_aload_n hx hb dX11_extreme_46 rfl (lv_at hl 1 rfl) ?_
        refine gf_X11_28 (v := .ref (ad 7)) hC hK hH 0 rfl rfl dX11_extreme_47 ?_
        refine lv_iload_n hx hb dX11_extreme_50 rfl (lv_at hl 2 rfl) ?_
        refine lv_iload hx hb dX11_extreme_51 (lv_at hl 0 rfl) ?_
        refine x_callVA (ws' := WC G ad σ) (As := [.ref (ad 7), .int p, .int (nI (wEA (bk h k (σ 8) (σ 9) (σ 10)) p))]) (rest := []) (st' := [.int (purA (bk h k (σ 8) (σ 9) (σ 10)) p (nI (wEA (bk h k (σ 8) (σ 9) (σ 10)) p)))]) hC hK hZ hA hl.1 hH (k_X11_purseOf_t l G ad σ p (nI (wEA (bk h k (σ 8) (σ 9) (σ 10)) p)) h k (wEA (bk h k (σ 8) (σ 9) (σ 10)) p) hb3 hb4 hh4 hk6 hwo hbh rfl (show wEnd _ _ (2 ^ h) < 2 ^ h from wEnd_lt _ _ _ (by omega))) lk_X11_124 rfl 0 10 rfl rfl rfl ⟨Nat.le_of_ble_eq_true rfl, Nat.le_of_ble_eq_true rfl⟩ ⟨Nat.le_refl _, Nat.le_refl _⟩ (Nat.le_of_ble_eq_true rfl) rfl dX11_extreme_53 (fun H locs hH => ?_)
        refine lv_goto (tgt := 61) hx hb dX11_extreme_56 (by decide) ?_
        exact x_iret hC hr hkL hH (by (first | refine (rfB0 ((cI_t c4).trans (cI_t (inb2.mpr (Or.inl c14))))).trans ?_ | refine (rfB0 ((cI_t c4).trans (cI_t (inb2.mpr (Or.inr c19))))).trans ?_); first | exact if_pos c42 | exact if_neg c42) ((congrArg (fun z_ : Nat → Int32 => WC G ad (ua σ 31 z_)) (by first | exact rfz0 ((cI_t c4).trans (cI_t (inb2.mpr (Or.inl c14)))) | exact rfz0 ((cI_t c4).trans (cI_t (inb2.mpr (Or.inr c19)))) : (rfz (σ 31) (exC p w 4)) = (σ 31))).trans (show WC G ad (ua σ 31 (σ 31)) = WC G ad σ from rfl)) dX11_extreme_61
    · refine lv_iload_n hx hb dX11_extreme_17 rfl (lv_at hl 2 rfl) ?_
      refine lv_iconst (v := 1) hx hb dX11_extreme_18 (by decide) ?_
      refine lv_icmp_eq (tgt := 29) hx hb dX11_extreme_19 (by decide) (fun c19 => ?_) (fun c19 => ?_)
      · refine lv_aload_n hx hb dX11_extreme_29 rfl (lv_at hl 0 rfl) ?_
        refine lv_aload_n hx hb dX11_extreme_30 rfl (lv_at hl 0 rfl) ?_
        refine gf_X11_28 (v := .ref (ad 7)) hC hK hH 0 rfl rfl dX11_extreme_31 ?_
        refine lv_iload_n hx hb dX11_extreme_34 rfl (lv_at hl 1 rfl) ?_
        refine lv_iload_n hx hb dX11_extreme_35 rfl (lv_at hl 3 rfl) ?_
        refine x_callVA (ws' := WC G ad σ) (As := [.ref (ad 7), .int p, .int sg]) (rest := []) (st' := [.int (nI (wEA (bk h k (σ 8) (σ 9) (σ 10)) p))]) hC hK hZ hA hl.1 hH (k_X11_extremeEnd_tm l G ad σ p sg h k hb3 hb4 hh4 hk6 hwo hbh hpb hsg) lk_X11_136 rfl 0 10 rfl rfl rfl ⟨Nat.le_of_ble_eq_true rfl, Nat.le_of_ble_eq_true rfl⟩ ⟨Nat.le_refl _, Nat.le_refl _⟩ (Nat.le_of_ble_eq_true rfl) rfl dX11_extreme_36 (fun H locs hH => ?_)
        refine lv_istore (lv' := [(4, .int (nI (wEA (bk h k (σ 8) (σ 9) (σ 10)) p))), (0, .ref (ad 0)), (1, .int p), (2, .int w), (3, .int sg)]) hx hb dX11_extreme_39 hl (by decide) rfl (fun ls hl => ?_)
        refine lv_iload_n hx hb dX11_extreme_41 rfl (lv_at hl 3 rfl) ?_
        refine lv_if_ne (tgt := 59) hx hb dX11_extreme_42 (by decide) (fun c42 => ?_) (fun c42 => ?_)
        · refine lv_iload hx hb dX11_extreme_59 (lv_at hl 0 rfl) ?_
          exact x_iret hC hr hkL hH (by (first | refine (rfB0 ((cI_t c4).trans (cI_t (inb2.mpr (Or.inl c14))))).trans ?_ | refine (rfB0 ((cI_t c4).trans (cI_t (inb2.mpr (Or.inr c19))))).trans ?_); first | exact if_pos c42 | exact if_neg c42) ((congrArg (fun z_ : Nat → Int32 => WC G ad (ua σ 31 z_)) (by first | exact rfz0 ((cI_t c4).trans (cI_t (inb2.mpr (Or.inl c14)))) | exact rfz0 ((cI_t c4).trans (cI_t (inb2.mpr (Or.inr c19)))) : (rfz (σ 31) (exC p w 4)) = (σ 31))).trans (show WC G ad (ua σ 31 (σ 31)) = WC G ad σ from rfl)) dX11_extreme_61
        · refine lv_aload_n hx hb dX11_extreme_45 rfl (lv_at hl 1 rfl) ?_
          refine lv_aload_n hx hb dX11_extreme_46 rfl (lv_at hl 1 rfl) ?_
          refine gf_X11_28 (v := .ref (ad 7)) hC hK hH 0 rfl rfl dX11_extreme_47 ?_
          refine lv_iload_n hx hb dX11_extreme_50 rfl (lv_at hl 2 rfl) ?_
          refine lv_iload hx hb dX11_extreme_51 (lv_at hl 0 rfl) ?_
          refine x_callVA (ws' := WC G ad σ) (As := [.ref (ad 7), .int p, .int (nI (wEA (bk h k (σ 8) (σ 9) (σ 10)) p))]) (rest := []) (st' := [.int (purA (bk h k (σ 8) (σ 9) (σ 10)) p (nI (wEA (bk h k (σ 8) (σ 9) (σ 10)) p)))]) hC hK hZ hA hl.1 hH (k_X11_purseOf_t l G ad σ p (nI (wEA (bk h k (σ 8) (σ 9) (σ 10)) p)) h k (wEA (bk h k (σ 8) (σ 9) (σ 10)) p) hb3 hb4 hh4 hk6 hwo hbh rfl (show wEnd _ _ (2 ^ h) < 2 ^ h from wEnd_lt _ _ _ (by omega))) lk_X11_124 rfl 0 10 rfl rfl rfl ⟨Nat.le_of_ble_eq_true rfl, Nat.le_of_ble_eq_true rfl⟩ ⟨Nat.le_refl _, Nat.le_refl _⟩ (Nat.le_of_ble_eq_true rfl) rfl dX11_extreme_53 (fun H locs hH => ?_)
          refine lv_goto (tgt := 61) hx hb dX11_extreme_56 (by decide) ?_
          exact x_iret hC hr hkL hH (by (first | refine (rfB0 ((cI_t c4).trans (cI_t (inb2.mpr (Or.inl c14))))).trans ?_ | refine (rfB0 ((cI_t c4).trans (cI_t (inb2.mpr (Or.inr c19))))).trans ?_); first | exact if_pos c42 | exact if_neg c42) ((congrArg (fun z_ : Nat → Int32 => WC G ad (ua σ 31 z_)) (by first | exact rfz0 ((cI_t c4).trans (cI_t (inb2.mpr (Or.inl c14)))) | exact rfz0 ((cI_t c4).trans (cI_t (inb2.mpr (Or.inr c19)))) : (rfz (σ 31) (exC p w 4)) = (σ 31))).trans (show WC G ad (ua σ 31 (σ 31)) = WC G ad σ from rfl)) dX11_extreme_61
      · refine lv_aload_n hx hb dX11_extreme_22 rfl (lv_at hl 0 rfl) ?_
        refine lv_bipush (v := (-2)) hx hb dX11_extreme_23 (by decide) ?_
        refine x_callVA (ws' := WC G ad (ua σ 31 (upd (σ 31) 2 ((σ 31) 2 + 1)))) (As := [.int (-2)]) (rest := []) (st' := [.int (1000000000 - (-2))]) hC hK hZ hA hl.1 hH (k_X11_refusedFar l G ad σ (-2) 2 rfl (by decide)) lk_X11_121 rfl 0 10 rfl rfl rfl ⟨Nat.le_of_ble_eq_true rfl, Nat.le_of_ble_eq_true rfl⟩ ⟨Nat.le_refl _, Nat.le_refl _⟩ (Nat.le_of_ble_eq_true rfl) rfl dX11_extreme_25 (fun H locs hH => ?_)
        exact x_iret hC hr hkL hH (by exact rfBk ((cI_t c4).trans (cI_f (inb2_n c14 c19))) (by decide)) (congrArg (fun z_ : Nat → Int32 => WC G ad (ua σ 31 z_)) (by exact rfzk ((cI_t c4).trans (cI_f (inb2_n c14 c19))) (by decide) : (rfz (σ 31) (exC p w 4)) = (upd (σ 31) 2 ((σ 31) 2 + 1)))) dX11_extreme_28
  · refine lv_aload_n hx hb dX11_extreme_7 rfl (lv_at hl 0 rfl) ?_
    refine lv_iconst (v := (-1)) hx hb dX11_extreme_8 (by decide) ?_
    refine x_callVA (ws' := WC G ad (ua σ 31 (upd (σ 31) 1 ((σ 31) 1 + 1)))) (As := [.int (-1)]) (rest := []) (st' := [.int (1000000000 - (-1))]) hC hK hZ hA hl.1 hH (k_X11_refusedFar l G ad σ (-1) 1 rfl (by decide)) lk_X11_121 rfl 0 10 rfl rfl rfl ⟨Nat.le_of_ble_eq_true rfl, Nat.le_of_ble_eq_true rfl⟩ ⟨Nat.le_refl _, Nat.le_refl _⟩ (Nat.le_of_ble_eq_true rfl) rfl dX11_extreme_9 (fun H locs hH => ?_)
    exact x_iret hC hr hkL hH (by exact rfBk (cI_f c4) (by decide)) (congrArg (fun z_ : Nat → Int32 => WC G ad (ua σ 31 z_)) (by exact rfzk (cI_f c4) (by decide) : (rfz (σ 31) (exC p w 4)) = (upd (σ 31) 1 ((σ 31) 1 + 1)))) dX11_extreme_12
set_option maxHeartbeats 4000000 in
set_option maxRecDepth 100000 in
theorem k_X11_extreme_p (l : Launch) (G : GP) (ad : Nat → Nat) (σ : Nat → Nat → Int32) (p : Int32) (w : Int32) (sg : Int32) (h : Nat) (k : Nat) (hb3 : (σ 7 3) = nI h) (hb4 : (σ 7 4) = nI k) (hh4 : h ≤ 4) (hk6 : k ≤ 6) (hwo : WO (bk h k (σ 8) (σ 9) (σ 10)) (σ 23) (σ 24)) (hbh : BH (bk h k (σ 8) (σ 9) (σ 10))) (hpb : PB (bk h k (σ 8) (σ 9) (σ 10))) (hsg : sg = 1) : CT l G yX11_extreme cX11_extreme 5 (some .int) 5 [.ref (ad 0), .int p, .int w, .int sg] (WC G ad σ) (some (.int (rfB (exC p w 4) (if w = 0 then besV (bk h k (σ 8) (σ 9) (σ 10)) p else nI (bEA (bk h k (σ 8) (σ 9) (σ 10)) p))))) (WC G ad (ua σ 31 (rfz (σ 31) (exC p w 4)))) := by
  refine x_meth "BetsOnBets" rfl (by decide +kernel) (by rfl) (Nat.le_of_ble_eq_true rfl) ?_
  intro pP eE sS mM args below meth cC A ls hC hr hkL hK hZ hA hH hl
  have hx := hC.1
  have hb := hC.2.1
  have hl : lv_has ls 5 [(0, .ref (ad 0)), (1, .int p), (2, .int w), (3, .int sg)] := hl
  have pwh := pw4 hh4
  have pwk := pw6 hk6
  have ph1 := Nat.one_le_two_pow (n := h)
  refine lv_iload_n hx hb dX11_extreme_0 rfl (lv_at hl 1 rfl) ?_
  refine x_callS (ws' := WC G ad σ) (As := [.int p]) (rest := []) (st' := [.int (bI (0 ≤ p ∧ p < 4))]) hC hK hZ hA hl.1 hH (k_X11_isPerson l G (pk ad []) (pk σ []) p) lk_X11_99 [] rfl rfl rfl rfl ⟨Nat.le_of_ble_eq_true rfl, Nat.le_of_ble_eq_true rfl⟩ ⟨Nat.le_refl _, Nat.le_refl _⟩ (Nat.le_of_ble_eq_true rfl) rfl dX11_extreme_1 (fun H locs hH => ?_)
  refine x_bne (tgt := 13) hC dX11_extreme_4 (by decide) (fun c4 => ?_) (fun c4 => ?_)
  · refine lv_iload_n hx hb dX11_extreme_13 rfl (lv_at hl 2 rfl) ?_
    refine lv_if_eq (tgt := 29) hx hb dX11_extreme_14 (by decide) (fun c14 => ?_) (fun c14 => ?_)
    · refine lv_aload_n hx hb dX11_extreme_29 rfl (lv_at hl 0 rfl) ?_
      refine lv_aload_n hx hb dX11_extreme_30 rfl (lv_at hl 0 rfl) ?_
      refine gf_X11_28 (v := .ref (ad 7)) hC hK hH 0 rfl rfl dX11_extreme_31 ?_
      refine lv_iload_n hx hb dX11_extreme_34 rfl (lv_at hl 1 rfl) ?_
      refine lv_iload_n hx hb dX11_extreme_35 rfl (lv_at hl 3 rfl) ?_
      refine x_callVA (ws' := WC G ad σ) (As := [.ref (ad 7), .int p, .int sg]) (rest := []) (st' := [.int (nI (bEA (bk h k (σ 8) (σ 9) (σ 10)) p))]) hC hK hZ hA hl.1 hH (k_X11_extremeEnd_tp l G ad σ p sg h k hb3 hb4 hh4 hk6 hwo hbh hpb hsg) lk_X11_136 rfl 0 10 rfl rfl rfl ⟨Nat.le_of_ble_eq_true rfl, Nat.le_of_ble_eq_true rfl⟩ ⟨Nat.le_refl _, Nat.le_refl _⟩ (Nat.le_of_ble_eq_true rfl) rfl dX11_extreme_36 (fun H locs hH => ?_)
      refine lv_istore (lv' := [(4, .int (nI (bEA (bk h k (σ 8) (σ 9) (σ 10)) p))), (0, .ref (ad 0)), (1, .int p), (2, .int w), (3, .int sg)]) hx hb dX11_extreme_39 hl (by decide) rfl (fun ls hl => ?_)
      refine lv_iload_n hx hb dX11_extreme_41 rfl (lv_at hl 3 rfl) ?_
      refine lv_if_ne (tgt := 59) hx hb dX11_extreme_42 (by decide) (fun c42 => ?_) (fun c42 => ?_)
      · refine lv_iload hx hb dX11_extreme_59 (lv_at hl 0 rfl) ?_
        exact x_iret hC hr hkL hH (by (first | refine (rfB0 ((cI_t c4).trans (cI_t (inb2.mpr (Or.inl c14))))).trans ?_ | refine (rfB0 ((cI_t c4).trans (cI_t (inb2.mpr (Or.inr c19))))).trans ?_); first | exact if_pos c42 | exact if_neg c42) ((congrArg (fun z_ : Nat → Int32 => WC G ad (ua σ 31 z_)) (by first | exact rfz0 ((cI_t c4).trans (cI_t (inb2.mpr (Or.inl c14)))) | exact rfz0 ((cI_t c4).trans (cI_t (inb2.mpr (Or.inr c19)))) : (rfz (σ 31) (exC p w 4)) = (σ 31))).trans (show WC G ad (ua σ 31 (σ 31)) = WC G ad σ from rfl)) dX11_extreme_61
      · refine lv_aload_n hx hb dX11_extreme_45 rfl (lv_at hl 1 rfl) ?_
        refine lv_aload_n hx hb dX11_extreme_46 rfl (lv_at hl 1 rfl) ?_
        refine gf_X11_28 (v := .ref (ad 7)) hC hK hH 0 rfl rfl dX11_extreme_47 ?_
        refine lv_iload_n hx hb dX11_extreme_50 rfl (lv_at hl 2 rfl) ?_
        refine lv_iload hx hb dX11_extreme_51 (lv_at hl 0 rfl) ?_
        refine x_callVA (ws' := WC G ad σ) (As := [.ref (ad 7), .int p, .int (nI (bEA (bk h k (σ 8) (σ 9) (σ 10)) p))]) (rest := []) (st' := [.int (purA (bk h k (σ 8) (σ 9) (σ 10)) p (nI (bEA (bk h k (σ 8) (σ 9) (σ 10)) p)))]) hC hK hZ hA hl.1 hH (k_X11_purseOf_t l G ad σ p (nI (bEA (bk h k (σ 8) (σ 9) (σ 10)) p)) h k (bEA (bk h k (σ 8) (σ 9) (σ 10)) p) hb3 hb4 hh4 hk6 hwo hbh rfl (show bEnd _ _ (2 ^ h) < 2 ^ h from bEnd_lt _ _ _ (by omega))) lk_X11_124 rfl 0 10 rfl rfl rfl ⟨Nat.le_of_ble_eq_true rfl, Nat.le_of_ble_eq_true rfl⟩ ⟨Nat.le_refl _, Nat.le_refl _⟩ (Nat.le_of_ble_eq_true rfl) rfl dX11_extreme_53 (fun H locs hH => ?_)
        refine lv_goto (tgt := 61) hx hb dX11_extreme_56 (by decide) ?_
        exact x_iret hC hr hkL hH (by (first | refine (rfB0 ((cI_t c4).trans (cI_t (inb2.mpr (Or.inl c14))))).trans ?_ | refine (rfB0 ((cI_t c4).trans (cI_t (inb2.mpr (Or.inr c19))))).trans ?_); first | exact if_pos c42 | exact if_neg c42) ((congrArg (fun z_ : Nat → Int32 => WC G ad (ua σ 31 z_)) (by first | exact rfz0 ((cI_t c4).trans (cI_t (inb2.mpr (Or.inl c14)))) | exact rfz0 ((cI_t c4).trans (cI_t (inb2.mpr (Or.inr c19)))) : (rfz (σ 31) (exC p w 4)) = (σ 31))).trans (show WC G ad (ua σ 31 (σ 31)) = WC G ad σ from rfl)) dX11_extreme_61
    · refine lv_iload_n hx hb dX11_extreme_17 rfl (lv_at hl 2 rfl) ?_
      refine lv_iconst (v := 1) hx hb dX11_extreme_18 (by decide) ?_
      refine lv_icmp_eq (tgt := 29) hx hb dX11_extreme_19 (by decide) (fun c19 => ?_) (fun c19 => ?_)
      · refine lv_aload_n hx hb dX11_extreme_29 rfl (lv_at hl 0 rfl) ?_
        refine lv_aload_n hx hb dX11_extreme_30 rfl (lv_at hl 0 rfl) ?_
        refine gf_X11_28 (v := .ref (ad 7)) hC hK hH 0 rfl rfl dX11_extreme_31 ?_
        refine lv_iload_n hx hb dX11_extreme_34 rfl (lv_at hl 1 rfl) ?_
        refine lv_iload_n hx hb dX11_extreme_35 rfl (lv_at hl 3 rfl) ?_
        refine x_callVA (ws' := WC G ad σ) (As := [.ref (ad 7), .int p, .int sg]) (rest := []) (st' := [.int (nI (bEA (bk h k (σ 8) (σ 9) (σ 10)) p))]) hC hK hZ hA hl.1 hH (k_X11_extremeEnd_tp l G ad σ p sg h k hb3 hb4 hh4 hk6 hwo hbh hpb hsg) lk_X11_136 rfl 0 10 rfl rfl rfl ⟨Nat.le_of_ble_eq_true rfl, Nat.le_of_ble_eq_true rfl⟩ ⟨Nat.le_refl _, Nat.le_refl _⟩ (Nat.le_of_ble_eq_true rfl) rfl dX11_extreme_36 (fun H locs hH => ?_)
        refine lv_istore (lv' := [(4, .int (nI (bEA (bk h k (σ 8) (σ 9) (σ 10)) p))), (0, .ref (ad 0)), (1, .int p), (2, .int w), (3, .int sg)]) hx hb dX11_extreme_39 hl (by decide) rfl (fun ls hl => ?_)
        refine lv_iload_n hx hb dX11_extreme_41 rfl (lv_at hl 3 rfl) ?_
        refine lv_if_ne (tgt := 59) hx hb dX11_extreme_42 (by decide) (fun c42 => ?_) (fun c42 => ?_)
        · refine lv_iload hx hb dX11_extreme_59 (lv_at hl 0 rfl) ?_
          exact x_iret hC hr hkL hH (by (first | refine (rfB0 ((cI_t c4).trans (cI_t (inb2.mpr (Or.inl c14))))).trans ?_ | refine (rfB0 ((cI_t c4).trans (cI_t (inb2.mpr (Or.inr c19))))).trans ?_); first | exact if_pos c42 | exact if_neg c42) ((congrArg (fun z_ : Nat → Int32 => WC G ad (ua σ 31 z_)) (by first | exact rfz0 ((cI_t c4).trans (cI_t (inb2.mpr (Or.inl c14)))) | exact rfz0 ((cI_t c4).trans (cI_t (inb2.mpr (Or.inr c19)))) : (rfz (σ 31) (exC p w 4)) = (σ 31))).trans (show WC G ad (ua σ 31 (σ 31)) = WC G ad σ from rfl)) dX11_extreme_61
        · refine lv_aload_n hx hb dX11_extreme_45 rfl (lv_at hl 1 rfl) ?_
          refine lv_aload_n hx hb dX11_extreme_46 rfl (lv_at hl 1 rfl) ?_
          refine gf_X11_28 (v := .ref (ad 7)) hC hK hH 0 rfl rfl dX11_extreme_47 ?_
          refine lv_iload_n hx hb dX11_extreme_50 rfl (lv_at hl 2 rfl) ?_
          refine lv_iload hx hb dX11_extreme_51 (lv_at hl 0 rfl) ?_
          refine x_callVA (ws' := WC G ad σ) (As := [.ref (ad 7), .int p, .int (nI (bEA (bk h k (σ 8) (σ 9) (σ 10)) p))]) (rest := []) (st' := [.int (purA (bk h k (σ 8) (σ 9) (σ 10)) p (nI (bEA (bk h k (σ 8) (σ 9) (σ 10)) p)))]) hC hK hZ hA hl.1 hH (k_X11_purseOf_t l G ad σ p (nI (bEA (bk h k (σ 8) (σ 9) (σ 10)) p)) h k (bEA (bk h k (σ 8) (σ 9) (σ 10)) p) hb3 hb4 hh4 hk6 hwo hbh rfl (show bEnd _ _ (2 ^ h) < 2 ^ h from bEnd_lt _ _ _ (by omega))) lk_X11_124 rfl 0 10 rfl rfl rfl ⟨Nat.le_of_ble_eq_true rfl, Nat.le_of_ble_eq_true rfl⟩ ⟨Nat.le_refl _, Nat.le_refl _⟩ (Nat.le_of_ble_eq_true rfl) rfl dX11_extreme_53 (fun H locs hH => ?_)
          refine lv_goto (tgt := 61) hx hb dX11_extreme_56 (by decide) ?_
          exact x_iret hC hr hkL hH (by (first | refine (rfB0 ((cI_t c4).trans (cI_t (inb2.mpr (Or.inl c14))))).trans ?_ | refine (rfB0 ((cI_t c4).trans (cI_t (inb2.mpr (Or.inr c19))))).trans ?_); first | exact if_pos c42 | exact if_neg c42) ((congrArg (fun z_ : Nat → Int32 => WC G ad (ua σ 31 z_)) (by first | exact rfz0 ((cI_t c4).trans (cI_t (inb2.mpr (Or.inl c14)))) | exact rfz0 ((cI_t c4).trans (cI_t (inb2.mpr (Or.inr c19)))) : (rfz (σ 31) (exC p w 4)) = (σ 31))).trans (show WC G ad (ua σ 31 (σ 31)) = WC G ad σ from rfl)) dX11_extreme_61
      · refine lv_aload_n hx hb dX11_extreme_22 rfl (lv_at hl 0 rfl) ?_
        refine lv_bipush (v := (-2)) hx hb dX11_extreme_23 (by decide) ?_
        refine x_callVA (ws' := WC G ad (ua σ 31 (upd (σ 31) 2 ((σ 31) 2 + 1)))) (As := [.int (-2)]) (rest := []) (st' := [.int (1000000000 - (-2))]) hC hK hZ hA hl.1 hH (k_X11_refusedFar l G ad σ (-2) 2 rfl (by decide)) lk_X11_121 rfl 0 10 rfl rfl rfl ⟨Nat.le_of_ble_eq_true rfl, Nat.le_of_ble_eq_true rfl⟩ ⟨Nat.le_refl _, Nat.le_refl _⟩ (Nat.le_of_ble_eq_true rfl) rfl dX11_extreme_25 (fun H locs hH => ?_)
        exact x_iret hC hr hkL hH (by exact rfBk ((cI_t c4).trans (cI_f (inb2_n c14 c19))) (by decide)) (congrArg (fun z_ : Nat → Int32 => WC G ad (ua σ 31 z_)) (by exact rfzk ((cI_t c4).trans (cI_f (inb2_n c14 c19))) (by decide) : (rfz (σ 31) (exC p w 4)) = (upd (σ 31) 2 ((σ 31) 2 + 1)))) dX11_extreme_28
  · refine lv_aload_n hx hb dX11_extreme_7 rfl (lv_at hl 0 rfl) ?_
    refine lv_iconst (v := (-1)) hx hb dX11_extreme_8 (by decide) ?_
    refine x_callVA (ws' := WC G ad (ua σ 31 (upd (σ 31) 1 ((σ 31) 1 + 1)))) (As := [.int (-1)]) (rest := []) (st' := [.int (1000000000 - (-1))]) hC hK hZ hA hl.1 hH (k_X11_refusedFar l G ad σ (-1) 1 rfl (by decide)) lk_X11_121 rfl 0 10 rfl rfl rfl ⟨Nat.le_of_ble_eq_true rfl, Nat.le_of_ble_eq_true rfl⟩ ⟨Nat.le_refl _, Nat.le_refl _⟩ (Nat.le_of_ble_eq_true rfl) rfl dX11_extreme_9 (fun H locs hH => ?_)
    exact x_iret hC hr hkL hH (by exact rfBk (cI_f c4) (by decide)) (congrArg (fun z_ : Nat → Int32 => WC G ad (ua σ 31 z_)) (by exact rfzk (cI_f c4) (by decide) : (rfz (σ 31) (exC p w 4)) = (upd (σ 31) 1 ((σ 31) 1 + 1)))) dX11_extreme_12
set_option maxHeartbeats 4000000 in
set_option maxRecDepth 100000 in
theorem k_X11_worst (l : Launch) (G : GP) (ad : Nat → Nat) (σ : Nat → Nat → Int32) (p : Int32) (w : Int32) (h : Nat) (k : Nat) (hb3 : (σ 7 3) = nI h) (hb4 : (σ 7 4) = nI k) (hh4 : h ≤ 4) (hk6 : k ≤ 6) (hwo : WO (bk h k (σ 8) (σ 9) (σ 10)) (σ 23) (σ 24)) (hbh : BH (bk h k (σ 8) (σ 9) (σ 10))) (hpb : PB (bk h k (σ 8) (σ 9) (σ 10))) : CT l G yX11_worst cX11_worst 3 (some .int) 6 [.ref (ad 0), .int p, .int w] (WC G ad σ) (some (.int (rfB (exC p w 4) (if w = 0 then worV (bk h k (σ 8) (σ 9) (σ 10)) p else nI (wEA (bk h k (σ 8) (σ 9) (σ 10)) p))))) (WC G ad (ua σ 31 (rfz (σ 31) (exC p w 4)))) := by
  refine x_meth "BetsOnBets" rfl (by decide +kernel) (by rfl) (Nat.le_of_ble_eq_true rfl) ?_
  intro pP eE sS mM args below meth cC A ls hC hr hkL hK hZ hA hH hl
  have hx := hC.1
  have hb := hC.2.1
  have hl : lv_has ls 3 [(0, .ref (ad 0)), (1, .int p), (2, .int w)] := hl
  have pwh := pw4 hh4
  have pwk := pw6 hk6
  have ph1 := Nat.one_le_two_pow (n := h)
  refine lv_aload_n hx hb dX11_worst_0 rfl (lv_at hl 0 rfl) ?_
  refine lv_iload_n hx hb dX11_worst_1 rfl (lv_at hl 1 rfl) ?_
  refine lv_iload_n hx hb dX11_worst_2 rfl (lv_at hl 2 rfl) ?_
  refine lv_iconst (v := (-1)) hx hb dX11_worst_3 (by decide) ?_
  refine x_callVA (ws' := WC G ad (ua σ 31 (rfz (σ 31) (exC p w 4)))) (As := [.int p, .int w, .int (-1)]) (rest := []) (st' := [.int (rfB (exC p w 4) (if w = 0 then worV (bk h k (σ 8) (σ 9) (σ 10)) p else nI (wEA (bk h k (σ 8) (σ 9) (σ 10)) p)))]) hC hK hZ hA hl.1 hH (k_X11_extreme_m l G ad σ p w (-1) h k hb3 hb4 hh4 hk6 hwo hbh hpb rfl) lk_X11_132 rfl 0 10 rfl rfl rfl ⟨Nat.le_of_ble_eq_true rfl, Nat.le_of_ble_eq_true rfl⟩ ⟨Nat.le_refl _, Nat.le_refl _⟩ (Nat.le_of_ble_eq_true rfl) rfl dX11_worst_4 (fun H locs hH => ?_)
  exact x_iret hC hr hkL hH rfl rfl dX11_worst_7
set_option maxHeartbeats 4000000 in
set_option maxRecDepth 100000 in
theorem k_X11_best (l : Launch) (G : GP) (ad : Nat → Nat) (σ : Nat → Nat → Int32) (p : Int32) (w : Int32) (h : Nat) (k : Nat) (hb3 : (σ 7 3) = nI h) (hb4 : (σ 7 4) = nI k) (hh4 : h ≤ 4) (hk6 : k ≤ 6) (hwo : WO (bk h k (σ 8) (σ 9) (σ 10)) (σ 23) (σ 24)) (hbh : BH (bk h k (σ 8) (σ 9) (σ 10))) (hpb : PB (bk h k (σ 8) (σ 9) (σ 10))) : CT l G yX11_best cX11_best 3 (some .int) 6 [.ref (ad 0), .int p, .int w] (WC G ad σ) (some (.int (rfB (exC p w 4) (if w = 0 then besV (bk h k (σ 8) (σ 9) (σ 10)) p else nI (bEA (bk h k (σ 8) (σ 9) (σ 10)) p))))) (WC G ad (ua σ 31 (rfz (σ 31) (exC p w 4)))) := by
  refine x_meth "BetsOnBets" rfl (by decide +kernel) (by rfl) (Nat.le_of_ble_eq_true rfl) ?_
  intro pP eE sS mM args below meth cC A ls hC hr hkL hK hZ hA hH hl
  have hx := hC.1
  have hb := hC.2.1
  have hl : lv_has ls 3 [(0, .ref (ad 0)), (1, .int p), (2, .int w)] := hl
  have pwh := pw4 hh4
  have pwk := pw6 hk6
  have ph1 := Nat.one_le_two_pow (n := h)
  refine lv_aload_n hx hb dX11_best_0 rfl (lv_at hl 0 rfl) ?_
  refine lv_iload_n hx hb dX11_best_1 rfl (lv_at hl 1 rfl) ?_
  refine lv_iload_n hx hb dX11_best_2 rfl (lv_at hl 2 rfl) ?_
  refine lv_iconst (v := 1) hx hb dX11_best_3 (by decide) ?_
  refine x_callVA (ws' := WC G ad (ua σ 31 (rfz (σ 31) (exC p w 4)))) (As := [.int p, .int w, .int 1]) (rest := []) (st' := [.int (rfB (exC p w 4) (if w = 0 then besV (bk h k (σ 8) (σ 9) (σ 10)) p else nI (bEA (bk h k (σ 8) (σ 9) (σ 10)) p)))]) hC hK hZ hA hl.1 hH (k_X11_extreme_p l G ad σ p w 1 h k hb3 hb4 hh4 hk6 hwo hbh hpb rfl) lk_X11_132 rfl 0 10 rfl rfl rfl ⟨Nat.le_of_ble_eq_true rfl, Nat.le_of_ble_eq_true rfl⟩ ⟨Nat.le_refl _, Nat.le_refl _⟩ (Nat.le_of_ble_eq_true rfl) rfl dX11_best_4 (fun H locs hH => ?_)
  exact x_iret hC hr hkL hH rfl rfl dX11_best_7
set_option maxHeartbeats 4000000 in
set_option maxRecDepth 100000 in
theorem k_X11_sure (l : Launch) (G : GP) (ad : Nat → Nat) (σ : Nat → Nat → Int32) (p : Int32) (h : Nat) (k : Nat) (hb3 : (σ 7 3) = nI h) (hb4 : (σ 7 4) = nI k) (hh4 : h ≤ 4) (hk6 : k ≤ 6) (hwo : WO (bk h k (σ 8) (σ 9) (σ 10)) (σ 23) (σ 24)) (hbh : BH (bk h k (σ 8) (σ 9) (σ 10))) (hpb : PB (bk h k (σ 8) (σ 9) (σ 10))) : CT l G yX11_sure cX11_sure 4 (some .int) 5 [.ref (ad 0), .int p] (WC G ad σ) (some (.int (rfA (hbC p 4) (sureA (bk h k (σ 8) (σ 9) (σ 10)) p)))) (WC G ad (ua σ 31 (rfz (σ 31) (hbC p 4)))) := by
  refine x_meth "BetsOnBets" rfl (by decide +kernel) (by rfl) (Nat.le_of_ble_eq_true rfl) ?_
  intro pP eE sS mM args below meth cC A ls hC hr hkL hK hZ hA hH hl
  have hx := hC.1
  have hb := hC.2.1
  have hl : lv_has ls 4 [(0, .ref (ad 0)), (1, .int p)] := hl
  have pwh := pw4 hh4
  have pwk := pw6 hk6
  have ph1 := Nat.one_le_two_pow (n := h)
  refine lv_iload_n hx hb dX11_sure_0 rfl (lv_at hl 1 rfl) ?_
  refine x_callS (ws' := WC G ad σ) (As := [.int p]) (rest := []) (st' := [.int (bI (0 ≤ p ∧ p < 4))]) hC hK hZ hA hl.1 hH (k_X11_isPerson l G (pk ad []) (pk σ []) p) lk_X11_99 [] rfl rfl rfl rfl ⟨Nat.le_of_ble_eq_true rfl, Nat.le_of_ble_eq_true rfl⟩ ⟨Nat.le_refl _, Nat.le_refl _⟩ (Nat.le_of_ble_eq_true rfl) rfl dX11_sure_1 (fun H locs hH => ?_)
  refine x_bne (tgt := 13) hC dX11_sure_4 (by decide) (fun c4 => ?_) (fun c4 => ?_)
  · refine lv_aload_n hx hb dX11_sure_13 rfl (lv_at hl 0 rfl) ?_
    refine lv_aload_n hx hb dX11_sure_14 rfl (lv_at hl 0 rfl) ?_
    refine gf_X11_28 (v := .ref (ad 7)) hC hK hH 0 rfl rfl dX11_sure_15 ?_
    refine lv_iload_n hx hb dX11_sure_18 rfl (lv_at hl 1 rfl) ?_
    refine lv_aload_n hx hb dX11_sure_19 rfl (lv_at hl 0 rfl) ?_
    refine lv_aload_n hx hb dX11_sure_20 rfl (lv_at hl 0 rfl) ?_
    refine gf_X11_28 (v := .ref (ad 7)) hC hK hH 0 rfl rfl dX11_sure_21 ?_
    refine lv_iload_n hx hb dX11_sure_24 rfl (lv_at hl 1 rfl) ?_
    refine lv_iconst (v := (-1)) hx hb dX11_sure_25 (by decide) ?_
    refine x_callVA (ws' := WC G ad σ) (As := [.ref (ad 7), .int p, .int (-1)]) (rest := [.int p, .ref (ad 7), .ref (ad 0)]) (st' := [.int (nI (wEA (bk h k (σ 8) (σ 9) (σ 10)) p)), .int p, .ref (ad 7), .ref (ad 0)]) hC hK hZ hA hl.1 hH (k_X11_extremeEnd_tm l G ad σ p (-1) h k hb3 hb4 hh4 hk6 hwo hbh hpb rfl) lk_X11_136 rfl 0 10 rfl rfl rfl ⟨Nat.le_of_ble_eq_true rfl, Nat.le_of_ble_eq_true rfl⟩ ⟨Nat.le_refl _, Nat.le_refl _⟩ (Nat.le_of_ble_eq_true rfl) rfl dX11_sure_26 (fun H locs hH => ?_)
    refine x_callVA (ws' := WC G ad σ) (As := [.ref (ad 7), .int p, .int (nI (wEA (bk h k (σ 8) (σ 9) (σ 10)) p))]) (rest := []) (st' := [.int (purA (bk h k (σ 8) (σ 9) (σ 10)) p (nI (wEA (bk h k (σ 8) (σ 9) (σ 10)) p)))]) hC hK hZ hA hl.1 hH (k_X11_purseOf_t l G ad σ p (nI (wEA (bk h k (σ 8) (σ 9) (σ 10)) p)) h k (wEA (bk h k (σ 8) (σ 9) (σ 10)) p) hb3 hb4 hh4 hk6 hwo hbh rfl (show wEnd _ _ (2 ^ h) < 2 ^ h from wEnd_lt _ _ _ (by omega))) lk_X11_124 rfl 0 10 rfl rfl rfl ⟨Nat.le_of_ble_eq_true rfl, Nat.le_of_ble_eq_true rfl⟩ ⟨Nat.le_refl _, Nat.le_refl _⟩ (Nat.le_of_ble_eq_true rfl) rfl dX11_sure_29 (fun H locs hH => ?_)
    refine x_topE (y := (worV (bk h k (σ 8) (σ 9) (σ 10)) p)) rfl ?_
    refine lv_if_lt (tgt := 39) hx hb dX11_sure_32 (by decide) (fun c32 => ?_) (fun c32 => ?_)
    · refine lv_iconst (v := 0) hx hb dX11_sure_39 (by decide) ?_
      refine lv_istore_n (lv' := [(2, .int 0), (0, .ref (ad 0)), (1, .int p)]) hx hb dX11_sure_40 rfl hl (by decide) rfl (fun ls hl => ?_)
      refine lv_aload_n hx hb dX11_sure_41 rfl (lv_at hl 1 rfl) ?_
      refine lv_aload_n hx hb dX11_sure_42 rfl (lv_at hl 1 rfl) ?_
      refine gf_X11_28 (v := .ref (ad 7)) hC hK hH 0 rfl rfl dX11_sure_43 ?_
      refine lv_iload_n hx hb dX11_sure_46 rfl (lv_at hl 2 rfl) ?_
      refine lv_aload_n hx hb dX11_sure_47 rfl (lv_at hl 1 rfl) ?_
      refine lv_aload_n hx hb dX11_sure_48 rfl (lv_at hl 1 rfl) ?_
      refine gf_X11_28 (v := .ref (ad 7)) hC hK hH 0 rfl rfl dX11_sure_49 ?_
      refine lv_iload_n hx hb dX11_sure_52 rfl (lv_at hl 2 rfl) ?_
      refine lv_iconst (v := 1) hx hb dX11_sure_53 (by decide) ?_
      refine x_callVA (ws' := WC G ad σ) (As := [.ref (ad 7), .int p, .int 1]) (rest := [.int p, .ref (ad 7), .ref (ad 0)]) (st' := [.int (nI (bEA (bk h k (σ 8) (σ 9) (σ 10)) p)), .int p, .ref (ad 7), .ref (ad 0)]) hC hK hZ hA hl.1 hH (k_X11_extremeEnd_tp l G ad σ p 1 h k hb3 hb4 hh4 hk6 hwo hbh hpb rfl) lk_X11_136 rfl 0 10 rfl rfl rfl ⟨Nat.le_of_ble_eq_true rfl, Nat.le_of_ble_eq_true rfl⟩ ⟨Nat.le_refl _, Nat.le_refl _⟩ (Nat.le_of_ble_eq_true rfl) rfl dX11_sure_54 (fun H locs hH => ?_)
      refine x_callVA (ws' := WC G ad σ) (As := [.ref (ad 7), .int p, .int (nI (bEA (bk h k (σ 8) (σ 9) (σ 10)) p))]) (rest := []) (st' := [.int (purA (bk h k (σ 8) (σ 9) (σ 10)) p (nI (bEA (bk h k (σ 8) (σ 9) (σ 10)) p)))]) hC hK hZ hA hl.1 hH (k_X11_purseOf_t l G ad σ p (nI (bEA (bk h k (σ 8) (σ 9) (σ 10)) p)) h k (bEA (bk h k (σ 8) (σ 9) (σ 10)) p) hb3 hb4 hh4 hk6 hwo hbh rfl (show bEnd _ _ (2 ^ h) < 2 ^ h from bEnd_lt _ _ _ (by omega))) lk_X11_124 rfl 0 10 rfl rfl rfl ⟨Nat.le_of_ble_eq_true rfl, Nat.le_of_ble_eq_true rfl⟩ ⟨Nat.le_refl _, Nat.le_refl _⟩ (Nat.le_of_ble_eq_true rfl) rfl dX11_sure_57 (fun H locs hH => ?_)
      refine x_topE (y := (besV (bk h k (σ 8) (σ 9) (σ 10)) p)) rfl ?_
      refine lv_if_le (tgt := 67) hx hb dX11_sure_60 (by decide) (fun c60 => ?_) (fun c60 => ?_)
      · refine lv_iconst (v := 0) hx hb dX11_sure_67 (by decide) ?_
        refine lv_istore_n (lv' := [(3, .int 0), (2, .int 0), (0, .ref (ad 0)), (1, .int p)]) hx hb dX11_sure_68 rfl hl (by decide) rfl (fun ls hl => ?_)
        refine lv_iload_n hx hb dX11_sure_69 rfl (lv_at hl 1 rfl) ?_
        refine lv_if_eq (tgt := 81) hx hb dX11_sure_70 (by decide) (fun c70 => ?_) (fun c70 => ?_)
        rotate_left
        · exact absurd c70 (by decide)
        refine lv_iconst (v := 0) hx hb dX11_sure_81 (by decide) ?_
        exact x_iret hC hr hkL hH (by (refine (rfA0 (cI_t c4)).trans ?_); first | exact if_neg (Int32.not_le.mpr c32) | exact (if_pos (Int32.not_lt.mp c32)).trans (if_neg (Int32.not_lt.mpr c60)) | exact (if_pos (Int32.not_lt.mp c32)).trans (if_pos (Int32.not_le.mp c60))) ((congrArg (fun z_ : Nat → Int32 => WC G ad (ua σ 31 z_)) (by exact rfz0 (cI_t c4) : (rfz (σ 31) (hbC p 4)) = (σ 31))).trans (show WC G ad (ua σ 31 (σ 31)) = WC G ad σ from rfl)) dX11_sure_82
      · refine lv_iconst (v := 1) hx hb dX11_sure_63 (by decide) ?_
        refine lv_goto (tgt := 68) hx hb dX11_sure_64 (by decide) ?_
        refine lv_istore_n (lv' := [(3, .int 1), (2, .int 0), (0, .ref (ad 0)), (1, .int p)]) hx hb dX11_sure_68 rfl hl (by decide) rfl (fun ls hl => ?_)
        refine lv_iload_n hx hb dX11_sure_69 rfl (lv_at hl 1 rfl) ?_
        refine lv_if_eq (tgt := 81) hx hb dX11_sure_70 (by decide) (fun c70 => ?_) (fun c70 => ?_)
        rotate_left
        · exact absurd c70 (by decide)
        refine lv_iconst (v := 0) hx hb dX11_sure_81 (by decide) ?_
        exact x_iret hC hr hkL hH (by (refine (rfA0 (cI_t c4)).trans ?_); first | exact if_neg (Int32.not_le.mpr c32) | exact (if_pos (Int32.not_lt.mp c32)).trans (if_neg (Int32.not_lt.mpr c60)) | exact (if_pos (Int32.not_lt.mp c32)).trans (if_pos (Int32.not_le.mp c60))) ((congrArg (fun z_ : Nat → Int32 => WC G ad (ua σ 31 z_)) (by exact rfz0 (cI_t c4) : (rfz (σ 31) (hbC p 4)) = (σ 31))).trans (show WC G ad (ua σ 31 (σ 31)) = WC G ad σ from rfl)) dX11_sure_82
    · refine lv_iconst (v := 1) hx hb dX11_sure_35 (by decide) ?_
      refine lv_goto (tgt := 40) hx hb dX11_sure_36 (by decide) ?_
      refine lv_istore_n (lv' := [(2, .int 1), (0, .ref (ad 0)), (1, .int p)]) hx hb dX11_sure_40 rfl hl (by decide) rfl (fun ls hl => ?_)
      refine lv_aload_n hx hb dX11_sure_41 rfl (lv_at hl 1 rfl) ?_
      refine lv_aload_n hx hb dX11_sure_42 rfl (lv_at hl 1 rfl) ?_
      refine gf_X11_28 (v := .ref (ad 7)) hC hK hH 0 rfl rfl dX11_sure_43 ?_
      refine lv_iload_n hx hb dX11_sure_46 rfl (lv_at hl 2 rfl) ?_
      refine lv_aload_n hx hb dX11_sure_47 rfl (lv_at hl 1 rfl) ?_
      refine lv_aload_n hx hb dX11_sure_48 rfl (lv_at hl 1 rfl) ?_
      refine gf_X11_28 (v := .ref (ad 7)) hC hK hH 0 rfl rfl dX11_sure_49 ?_
      refine lv_iload_n hx hb dX11_sure_52 rfl (lv_at hl 2 rfl) ?_
      refine lv_iconst (v := 1) hx hb dX11_sure_53 (by decide) ?_
      refine x_callVA (ws' := WC G ad σ) (As := [.ref (ad 7), .int p, .int 1]) (rest := [.int p, .ref (ad 7), .ref (ad 0)]) (st' := [.int (nI (bEA (bk h k (σ 8) (σ 9) (σ 10)) p)), .int p, .ref (ad 7), .ref (ad 0)]) hC hK hZ hA hl.1 hH (k_X11_extremeEnd_tp l G ad σ p 1 h k hb3 hb4 hh4 hk6 hwo hbh hpb rfl) lk_X11_136 rfl 0 10 rfl rfl rfl ⟨Nat.le_of_ble_eq_true rfl, Nat.le_of_ble_eq_true rfl⟩ ⟨Nat.le_refl _, Nat.le_refl _⟩ (Nat.le_of_ble_eq_true rfl) rfl dX11_sure_54 (fun H locs hH => ?_)
      refine x_callVA (ws' := WC G ad σ) (As := [.ref (ad 7), .int p, .int (nI (bEA (bk h k (σ 8) (σ 9) (σ 10)) p))]) (rest := []) (st' := [.int (purA (bk h k (σ 8) (σ 9) (σ 10)) p (nI (bEA (bk h k (σ 8) (σ 9) (σ 10)) p)))]) hC hK hZ hA hl.1 hH (k_X11_purseOf_t l G ad σ p (nI (bEA (bk h k (σ 8) (σ 9) (σ 10)) p)) h k (bEA (bk h k (σ 8) (σ 9) (σ 10)) p) hb3 hb4 hh4 hk6 hwo hbh rfl (show bEnd _ _ (2 ^ h) < 2 ^ h from bEnd_lt _ _ _ (by omega))) lk_X11_124 rfl 0 10 rfl rfl rfl ⟨Nat.le_of_ble_eq_true rfl, Nat.le_of_ble_eq_true rfl⟩ ⟨Nat.le_refl _, Nat.le_refl _⟩ (Nat.le_of_ble_eq_true rfl) rfl dX11_sure_57 (fun H locs hH => ?_)
      refine x_topE (y := (besV (bk h k (σ 8) (σ 9) (σ 10)) p)) rfl ?_
      refine lv_if_le (tgt := 67) hx hb dX11_sure_60 (by decide) (fun c60 => ?_) (fun c60 => ?_)
      · refine lv_iconst (v := 0) hx hb dX11_sure_67 (by decide) ?_
        refine lv_istore_n (lv' := [(3, .int 0), (2, .int 1), (0, .ref (ad 0)), (1, .int p)]) hx hb dX11_sure_68 rfl hl (by decide) rfl (fun ls hl => ?_)
        refine lv_iload_n hx hb dX11_sure_69 rfl (lv_at hl 1 rfl) ?_
        refine lv_if_eq (tgt := 81) hx hb dX11_sure_70 (by decide) (fun c70 => ?_) (fun c70 => ?_)
        · exact absurd c70 (by decide)
        refine lv_iload_n hx hb dX11_sure_73 rfl (lv_at hl 0 rfl) ?_
        refine lv_if_eq (tgt := 81) hx hb dX11_sure_74 (by decide) (fun c74 => ?_) (fun c74 => ?_)
        rotate_left
        · exact absurd c74 (by decide)
        refine lv_iconst (v := 0) hx hb dX11_sure_81 (by decide) ?_
        exact x_iret hC hr hkL hH (by (refine (rfA0 (cI_t c4)).trans ?_); first | exact if_neg (Int32.not_le.mpr c32) | exact (if_pos (Int32.not_lt.mp c32)).trans (if_neg (Int32.not_lt.mpr c60)) | exact (if_pos (Int32.not_lt.mp c32)).trans (if_pos (Int32.not_le.mp c60))) ((congrArg (fun z_ : Nat → Int32 => WC G ad (ua σ 31 z_)) (by exact rfz0 (cI_t c4) : (rfz (σ 31) (hbC p 4)) = (σ 31))).trans (show WC G ad (ua σ 31 (σ 31)) = WC G ad σ from rfl)) dX11_sure_82
      · refine lv_iconst (v := 1) hx hb dX11_sure_63 (by decide) ?_
        refine lv_goto (tgt := 68) hx hb dX11_sure_64 (by decide) ?_
        refine lv_istore_n (lv' := [(3, .int 1), (2, .int 1), (0, .ref (ad 0)), (1, .int p)]) hx hb dX11_sure_68 rfl hl (by decide) rfl (fun ls hl => ?_)
        refine lv_iload_n hx hb dX11_sure_69 rfl (lv_at hl 1 rfl) ?_
        refine lv_if_eq (tgt := 81) hx hb dX11_sure_70 (by decide) (fun c70 => ?_) (fun c70 => ?_)
        · exact absurd c70 (by decide)
        refine lv_iload_n hx hb dX11_sure_73 rfl (lv_at hl 0 rfl) ?_
        refine lv_if_eq (tgt := 81) hx hb dX11_sure_74 (by decide) (fun c74 => ?_) (fun c74 => ?_)
        · exact absurd c74 (by decide)
        refine lv_iconst (v := 1) hx hb dX11_sure_77 (by decide) ?_
        refine lv_goto (tgt := 82) hx hb dX11_sure_78 (by decide) ?_
        exact x_iret hC hr hkL hH (by (refine (rfA0 (cI_t c4)).trans ?_); first | exact if_neg (Int32.not_le.mpr c32) | exact (if_pos (Int32.not_lt.mp c32)).trans (if_neg (Int32.not_lt.mpr c60)) | exact (if_pos (Int32.not_lt.mp c32)).trans (if_pos (Int32.not_le.mp c60))) ((congrArg (fun z_ : Nat → Int32 => WC G ad (ua σ 31 z_)) (by exact rfz0 (cI_t c4) : (rfz (σ 31) (hbC p 4)) = (σ 31))).trans (show WC G ad (ua σ 31 (σ 31)) = WC G ad σ from rfl)) dX11_sure_82
  · refine lv_aload_n hx hb dX11_sure_7 rfl (lv_at hl 0 rfl) ?_
    refine lv_iconst (v := (-1)) hx hb dX11_sure_8 (by decide) ?_
    refine x_callVA (ws' := WC G ad (ua σ 31 (upd (σ 31) 1 ((σ 31) 1 + 1)))) (As := [.int (-1)]) (rest := []) (st' := [.int (-1)]) hC hK hZ hA hl.1 hH (k_X11_refused l G ad σ (-1) 1 rfl (by decide)) lk_X11_80 rfl 0 10 rfl rfl rfl ⟨Nat.le_of_ble_eq_true rfl, Nat.le_of_ble_eq_true rfl⟩ ⟨Nat.le_refl _, Nat.le_refl _⟩ (Nat.le_of_ble_eq_true rfl) rfl dX11_sure_9 (fun H locs hH => ?_)
    exact x_iret hC hr hkL hH (by exact rfAk (cI_f c4) (by decide)) (congrArg (fun z_ : Nat → Int32 => WC G ad (ua σ 31 z_)) (by exact rfzk (cI_f c4) (by decide) : (rfz (σ 31) (hbC p 4)) = (upd (σ 31) 1 ((σ 31) 1 + 1)))) dX11_sure_12
set_option maxHeartbeats 4000000 in
set_option maxRecDepth 100000 in
theorem k_X11_likely (l : Launch) (G : GP) (ad : Nat → Nat) (σ : Nat → Nat → Int32) (p : Int32) (h : Nat) (k : Nat) (hb3 : (σ 7 3) = nI h) (hb4 : (σ 7 4) = nI k) (hh4 : h ≤ 4) (hk6 : k ≤ 6) (hwo : WO (bk h k (σ 8) (σ 9) (σ 10)) (σ 23) (σ 24)) (hbh : BH (bk h k (σ 8) (σ 9) (σ 10))) : CT l G yX11_likely cX11_likely 6 (some .int) 4 [.ref (ad 0), .int p] (WC G ad σ) (some (.int (rfA (hbC p 4) (likA (bk h k (σ 8) (σ 9) (σ 10)) p)))) (WC G ad (ua σ 31 (rfz (σ 31) (hbC p 4)))) := by
  refine x_meth "BetsOnBets" rfl (by decide +kernel) (by rfl) (Nat.le_of_ble_eq_true rfl) ?_
  intro pP eE sS mM args below meth cC A ls hC hr hkL hK hZ hA hH hl
  have hx := hC.1
  have hb := hC.2.1
  have hl : lv_has ls 6 [(0, .ref (ad 0)), (1, .int p)] := hl
  have pwh := pw4 hh4
  have pwk := pw6 hk6
  have ph1 := Nat.one_le_two_pow (n := h)
  refine lv_iload_n hx hb dX11_likely_0 rfl (lv_at hl 1 rfl) ?_
  refine x_callS (ws' := WC G ad σ) (As := [.int p]) (rest := []) (st' := [.int (bI (0 ≤ p ∧ p < 4))]) hC hK hZ hA hl.1 hH (k_X11_isPerson l G (pk ad []) (pk σ []) p) lk_X11_99 [] rfl rfl rfl rfl ⟨Nat.le_of_ble_eq_true rfl, Nat.le_of_ble_eq_true rfl⟩ ⟨Nat.le_refl _, Nat.le_refl _⟩ (Nat.le_of_ble_eq_true rfl) rfl dX11_likely_1 (fun H locs hH => ?_)
  refine x_bne (tgt := 13) hC dX11_likely_4 (by decide) (fun c4 => ?_) (fun c4 => ?_)
  · refine lv_aload_n hx hb dX11_likely_13 rfl (lv_at hl 0 rfl) ?_
    refine gf_X11_28 (v := .ref (ad 7)) hC hK hH 0 rfl rfl dX11_likely_14 ?_
    refine x_callV (ws' := WC G ad σ) (As := []) (rest := []) (st' := [.int (nI (2 ^ h))]) hC hK hZ hA hl.1 hH (k_X2_ends l G (pk ad [7, 8, 9, 10]) (pk σ [7, 8, 9, 10]) h k hb3 hb4 hh4 hk6) lk_X11_139 [7, 8, 9, 10] rfl rfl rfl 7 1 rfl rfl rfl ⟨Nat.le_of_ble_eq_true rfl, Nat.le_of_ble_eq_true rfl⟩ ⟨Nat.le_refl _, Nat.le_refl _⟩ (Nat.le_of_ble_eq_true rfl) rfl dX11_likely_17 (fun H locs hH => ?_)
    refine lv_istore_n (lv' := [(2, .int (nI (2 ^ h))), (0, .ref (ad 0)), (1, .int p)]) hx hb dX11_likely_20 rfl hl (by decide) rfl (fun ls hl => ?_)
    refine lv_lconst (v := 0) hx hb dX11_likely_21 (by decide) ?_
    refine lv_lstore_n (lv' := [(3, .long (0 : Int64)), (2, .int (nI (2 ^ h))), (0, .ref (ad 0)), (1, .int p)]) hx hb dX11_likely_22 rfl hl (by decide) rfl (fun ls hl => ?_)
    refine lv_iconst (v := 0) hx hb dX11_likely_23 (by decide) ?_
    refine lv_istore (lv' := [(5, .int 0), (3, .long (0 : Int64)), (2, .int (nI (2 ^ h))), (0, .ref (ad 0)), (1, .int p)]) hx hb dX11_likely_24 hl (by decide) rfl (fun ls hl => ?_)
    refine x_loop (G := G) (A := A) (H0 := sS.heap) (nL := 6) (α := Nat) (fun q_ => (2 ^ h) - q_) (fun q_ => q_ ≤ (2 ^ h)) (fun q_ => WC G ad σ) (fun q_ => [(0, .ref (ad 0)), (1, .int p), (2, .int (nI (2 ^ h))), (3, .long (sumL (bk h k (σ 8) (σ 9) (σ 10)) p q_)), (5, .int (nI q_))]) ?_ 0 (show 0 ≤ (2 ^ h) from (Nat.zero_le _)) ?_ ?_
    · rintro e hi_e ih_e H locs ls hH hl
      replace hi_e : e ≤ (2 ^ h) := hi_e
      replace hH : Hx G A (WC G ad σ) sS.heap H locs := hH
      replace hl : lv_has ls 6 [(0, .ref (ad 0)), (1, .int p), (2, .int (nI (2 ^ h))), (3, .long (sumL (bk h k (σ 8) (σ 9) (σ 10)) p e)), (5, .int (nI e))] := hl
      refine lv_iload hx hb dX11_likely_26 (lv_at hl 4 rfl) ?_
      refine lv_iload_n hx hb dX11_likely_28 rfl (lv_at hl 2 rfl) ?_
      refine lv_icmp_ge (tgt := 64) hx hb dX11_likely_29 (by decide) (fun c29 => ?_) (fun c29 => ?_)
      · have ge_e := lp_out (n := 2 ^ h) rfl (by omega) (by omega) c29
        have eq_e : e = 2 ^ h := by omega
        refine lv_aload_n hx hb dX11_likely_64 rfl (lv_at hl 0 rfl) ?_
        refine gf_X11_28 (v := .ref (ad 7)) hC hK hH 0 rfl rfl dX11_likely_65 ?_
        refine lv_lload_n hx hb dX11_likely_68 rfl (lv_at hl 3 rfl) ?_
        refine x_callS (ws' := WC G ad σ) (As := [.ref (ad 7), .long (sumL (bk h k (σ 8) (σ 9) (σ 10)) p e)]) (rest := []) (st' := [.int ((((sumL (bk h k (σ 8) (σ 9) (σ 10)) p e) * 100) / whl h).toInt32)]) hC hK hZ hA hl.1 hH (k_X11_inHundredths l G (pk ad [7, 8, 9, 10]) (pk σ [7, 8, 9, 10]) (sumL (bk h k (σ 8) (σ 9) (σ 10)) p e) h k hb3 hb4 hh4 hk6) lk_X11_146 [7, 8, 9, 10] rfl rfl rfl rfl ⟨Nat.le_of_ble_eq_true rfl, Nat.le_of_ble_eq_true rfl⟩ ⟨Nat.le_refl _, Nat.le_refl _⟩ (Nat.le_of_ble_eq_true rfl) rfl dX11_likely_69 (fun H locs hH => ?_)
        exact x_iret hC hr hkL hH (by (refine (rfA0 (cI_t c4)).trans ?_); rw [eq_e, likA, Int64.mul_comm]; rfl) ((congrArg (fun z_ : Nat → Int32 => WC G ad (ua σ 31 z_)) (by exact rfz0 (cI_t c4) : (rfz (σ 31) (hbC p 4)) = (σ 31))).trans (show WC G ad (ua σ 31 (σ 31)) = WC G ad σ from rfl)) dX11_likely_72
      · have lt_e := lp_in (n := 2 ^ h) rfl (by omega) (by omega) c29
        refine lv_aload_n hx hb dX11_likely_32 rfl (lv_at hl 0 rfl) ?_
        refine lv_aload_n hx hb dX11_likely_33 rfl (lv_at hl 0 rfl) ?_
        refine gf_X11_28 (v := .ref (ad 7)) hC hK hH 0 rfl rfl dX11_likely_34 ?_
        refine lv_iload_n hx hb dX11_likely_37 rfl (lv_at hl 1 rfl) ?_
        refine lv_iload hx hb dX11_likely_38 (lv_at hl 4 rfl) ?_
        refine x_callVA (ws' := WC G ad σ) (As := [.ref (ad 7), .int p, .int (nI e)]) (rest := []) (st' := [.int (purA (bk h k (σ 8) (σ 9) (σ 10)) p (nI e))]) hC hK hZ hA hl.1 hH (k_X11_purseOf_t l G ad σ p (nI e) h k e hb3 hb4 hh4 hk6 hwo hbh rfl (by omega)) lk_X11_124 rfl 0 10 rfl rfl rfl ⟨Nat.le_of_ble_eq_true rfl, Nat.le_of_ble_eq_true rfl⟩ ⟨Nat.le_refl _, Nat.le_refl _⟩ (Nat.le_of_ble_eq_true rfl) rfl dX11_likely_40 (fun H locs hH => ?_)
        refine lv_if_le (tgt := 58) hx hb dX11_likely_43 (by decide) (fun c43 => ?_) (fun c43 => ?_)
        · refine lv_iinc (v := ((nI e) + 1)) (lv' := [(5, .int ((nI e) + 1)), (0, .ref (ad 0)), (1, .int p), (2, .int (nI (2 ^ h))), (3, .long (sumL (bk h k (σ 8) (σ 9) (σ 10)) p e))]) hx hb dX11_likely_58 hl (k := 4) rfl rfl (by decide) rfl (fun ls hl => ?_)
          refine lv_goto (tgt := 26) hx hb dX11_likely_61 (by decide) ?_
          exact ih_e (e + 1) (show (e + 1) ≤ (2 ^ h) from (by omega)) (show (2 ^ h) - (e + 1) < (2 ^ h) - e from (by omega)) _ _ _ (hH.eq rfl) (lv_eq (lv_sub hl [1, 2, 3, 4, 0] rfl) (lc_s (lc_s (lc_s (lc_l (by first | (rw [sumL, if_neg (Int32.not_lt.mpr c43), Int64.add_zero]; done) | (rw [sumL, if_pos (Int32.not_le.mp c43)]; done) : (sumL (bk h k (σ 8) (σ 9) (σ 10)) p e) = (sumL (bk h k (σ 8) (σ 9) (σ 10)) p (e + 1))) (lc_i (by exact nI_1 _ : ((nI e) + 1) = (nI (e + 1))) rfl))))))
        · refine lv_lload_n hx hb dX11_likely_46 rfl (lv_at hl 3 rfl) ?_
          refine lv_aload_n hx hb dX11_likely_47 rfl (lv_at hl 0 rfl) ?_
          refine gf_X11_28 (v := .ref (ad 7)) hC hK hH 0 rfl rfl dX11_likely_48 ?_
          refine lv_iload hx hb dX11_likely_51 (lv_at hl 4 rfl) ?_
          refine x_callV (ws' := WC G ad σ) (As := [.int (nI e)]) (rest := [.long (sumL (bk h k (σ 8) (σ 9) (σ 10)) p e)]) (st' := [.long (wgtA (bk h k (σ 8) (σ 9) (σ 10)) (nI e)), .long (sumL (bk h k (σ 8) (σ 9) (σ 10)) p e)]) hC hK hZ hA hl.1 hH (k_X2_weightOf l G (pk ad [7, 8, 9, 10]) (pk σ [7, 8, 9, 10]) (nI e) h k hb3 hb4 hh4 hk6) lk_X11_142 [7, 8, 9, 10] rfl rfl rfl 7 1 rfl rfl rfl ⟨Nat.le_of_ble_eq_true rfl, Nat.le_of_ble_eq_true rfl⟩ ⟨Nat.le_refl _, Nat.le_refl _⟩ (Nat.le_of_ble_eq_true rfl) rfl dX11_likely_53 (fun H locs hH => ?_)
          refine lv_ladd hx hb dX11_likely_56 ?_
          refine lv_lstore_n (lv' := [(3, .long ((sumL (bk h k (σ 8) (σ 9) (σ 10)) p e) + (wgtA (bk h k (σ 8) (σ 9) (σ 10)) (nI e)))), (0, .ref (ad 0)), (1, .int p), (2, .int (nI (2 ^ h))), (5, .int (nI e))]) hx hb dX11_likely_57 rfl hl (by decide) rfl (fun ls hl => ?_)
          refine lv_iinc (v := ((nI e) + 1)) (lv' := [(5, .int ((nI e) + 1)), (3, .long ((sumL (bk h k (σ 8) (σ 9) (σ 10)) p e) + (wgtA (bk h k (σ 8) (σ 9) (σ 10)) (nI e)))), (0, .ref (ad 0)), (1, .int p), (2, .int (nI (2 ^ h)))]) hx hb dX11_likely_58 hl (k := 4) rfl rfl (by decide) rfl (fun ls hl => ?_)
          refine lv_goto (tgt := 26) hx hb dX11_likely_61 (by decide) ?_
          exact ih_e (e + 1) (show (e + 1) ≤ (2 ^ h) from (by omega)) (show (2 ^ h) - (e + 1) < (2 ^ h) - e from (by omega)) _ _ _ (hH.eq rfl) (lv_eq (lv_sub hl [2, 3, 4, 1, 0] rfl) (lc_s (lc_s (lc_s (lc_l (by first | (rw [sumL, if_neg (Int32.not_lt.mpr c43), Int64.add_zero]; done) | (rw [sumL, if_pos (Int32.not_le.mp c43)]; done) : ((sumL (bk h k (σ 8) (σ 9) (σ 10)) p e) + (wgtA (bk h k (σ 8) (σ 9) (σ 10)) (nI e))) = (sumL (bk h k (σ 8) (σ 9) (σ 10)) p (e + 1))) (lc_i (by exact nI_1 _ : ((nI e) + 1) = (nI (e + 1))) rfl))))))
    · exact hH.eq rfl
    · exact lv_eq (lv_sub hl [3, 4, 2, 1, 0] rfl) (lc_s (lc_s (lc_s (lc_l (by rfl : (0 : Int64) = (sumL (bk h k (σ 8) (σ 9) (σ 10)) p 0)) (lc_i (by rfl : 0 = (nI 0)) rfl)))))
  · refine lv_aload_n hx hb dX11_likely_7 rfl (lv_at hl 0 rfl) ?_
    refine lv_iconst (v := (-1)) hx hb dX11_likely_8 (by decide) ?_
    refine x_callVA (ws' := WC G ad (ua σ 31 (upd (σ 31) 1 ((σ 31) 1 + 1)))) (As := [.int (-1)]) (rest := []) (st' := [.int (-1)]) hC hK hZ hA hl.1 hH (k_X11_refused l G ad σ (-1) 1 rfl (by decide)) lk_X11_80 rfl 0 10 rfl rfl rfl ⟨Nat.le_of_ble_eq_true rfl, Nat.le_of_ble_eq_true rfl⟩ ⟨Nat.le_refl _, Nat.le_refl _⟩ (Nat.le_of_ble_eq_true rfl) rfl dX11_likely_9 (fun H locs hH => ?_)
    exact x_iret hC hr hkL hH (by exact rfAk (cI_f c4) (by decide)) (congrArg (fun z_ : Nat → Int32 => WC G ad (ua σ 31 z_)) (by exact rfzk (cI_f c4) (by decide) : (rfz (σ 31) (hbC p 4)) = (upd (σ 31) 1 ((σ 31) 1 + 1)))) dX11_likely_12
set_option maxHeartbeats 4000000 in
set_option maxRecDepth 100000 in
theorem k_X11_host (l : Launch) (G : GP) (ad : Nat → Nat) (σ : Nat → Nat → Int32) (h : Nat) (k : Nat) (hb3 : (σ 7 3) = nI h) (hb4 : (σ 7 4) = nI k) (hh4 : h ≤ 4) (hk6 : k ≤ 6) (hwo : WO (bk h k (σ 8) (σ 9) (σ 10)) (σ 23) (σ 24)) (hbh : BH (bk h k (σ 8) (σ 9) (σ 10))) : CT l G yX11_host cX11_host 3 (some .int) 5 [.ref (ad 0)] (WC G ad σ) (some (.int (nI (hosA (bk h k (σ 8) (σ 9) (σ 10)) 4)))) (WC G ad σ) := by
  refine x_meth "BetsOnBets" rfl (by decide +kernel) (by rfl) (Nat.le_of_ble_eq_true rfl) ?_
  intro pP eE sS mM args below meth cC A ls hC hr hkL hK hZ hA hH hl
  have hx := hC.1
  have hb := hC.2.1
  have hl : lv_has ls 3 [(0, .ref (ad 0))] := hl
  have pwh := pw4 hh4
  have pwk := pw6 hk6
  have ph1 := Nat.one_le_two_pow (n := h)
  refine lv_iconst (v := 0) hx hb dX11_host_0 (by decide) ?_
  refine lv_istore_n (lv' := [(1, .int 0), (0, .ref (ad 0))]) hx hb dX11_host_1 rfl hl (by decide) rfl (fun ls hl => ?_)
  refine lv_iconst (v := 1) hx hb dX11_host_2 (by decide) ?_
  refine lv_istore_n (lv' := [(2, .int 1), (1, .int 0), (0, .ref (ad 0))]) hx hb dX11_host_3 rfl hl (by decide) rfl (fun ls hl => ?_)
  refine x_loop (G := G) (A := A) (H0 := sS.heap) (nL := 3) (α := Nat) (fun q_ => 4 - q_) (fun q_ => q_ ≤ 4) (fun q_ => WC G ad σ) (fun q_ => [(0, .ref (ad 0)), (1, .int (nI (hosA (bk h k (σ 8) (σ 9) (σ 10)) q_))), (2, .int (nI q_))]) ?_ 1 (show 1 ≤ 4 from (by omega)) ?_ ?_
  · rintro q hi_q ih_q H locs ls hH hl
    replace hi_q : q ≤ 4 := hi_q
    replace hH : Hx G A (WC G ad σ) sS.heap H locs := hH
    replace hl : lv_has ls 3 [(0, .ref (ad 0)), (1, .int (nI (hosA (bk h k (σ 8) (σ 9) (σ 10)) q))), (2, .int (nI q))] := hl
    refine lv_iload_n hx hb dX11_host_4 rfl (lv_at hl 2 rfl) ?_
    refine lv_iconst (v := 4) hx hb dX11_host_5 (by decide) ?_
    refine lv_icmp_ge (tgt := 38) hx hb dX11_host_6 (by decide) (fun c6 => ?_) (fun c6 => ?_)
    · have ge_q := lp_out (n := 4) rfl (by omega) (by omega) c6
      have eq_q : q = 4 := by omega
      subst eq_q
      refine lv_iload_n hx hb dX11_host_38 rfl (lv_at hl 1 rfl) ?_
      exact x_iret hC hr hkL hH rfl rfl dX11_host_39
    · have lt_q := lp_in (n := 4) rfl (by omega) (by omega) c6
      refine lv_aload_n hx hb dX11_host_9 rfl (lv_at hl 0 rfl) ?_
      refine lv_aload_n hx hb dX11_host_10 rfl (lv_at hl 0 rfl) ?_
      refine gf_X11_28 (v := .ref (ad 7)) hC hK hH 0 rfl rfl dX11_host_11 ?_
      refine lv_iload_n hx hb dX11_host_14 rfl (lv_at hl 2 rfl) ?_
      refine x_callVA (ws' := WC G ad σ) (As := [.ref (ad 7), .int (nI q)]) (rest := []) (st' := [.int (meanA (bk h k (σ 8) (σ 9) (σ 10)) (nI q))]) hC hK hZ hA hl.1 hH (k_X11_meanOf_t l G ad σ (nI q) h k hb3 hb4 hh4 hk6 hwo hbh) lk_X11_128 rfl 0 10 rfl rfl rfl ⟨Nat.le_of_ble_eq_true rfl, Nat.le_of_ble_eq_true rfl⟩ ⟨Nat.le_refl _, Nat.le_refl _⟩ (Nat.le_of_ble_eq_true rfl) rfl dX11_host_15 (fun H locs hH => ?_)
      refine lv_aload_n hx hb dX11_host_18 rfl (lv_at hl 0 rfl) ?_
      refine lv_aload_n hx hb dX11_host_19 rfl (lv_at hl 0 rfl) ?_
      refine gf_X11_28 (v := .ref (ad 7)) hC hK hH 0 rfl rfl dX11_host_20 ?_
      refine lv_iload_n hx hb dX11_host_23 rfl (lv_at hl 1 rfl) ?_
      refine x_callVA (ws' := WC G ad σ) (As := [.ref (ad 7), .int (nI (hosA (bk h k (σ 8) (σ 9) (σ 10)) q))]) (rest := [.int (meanA (bk h k (σ 8) (σ 9) (σ 10)) (nI q))]) (st' := [.int (meanA (bk h k (σ 8) (σ 9) (σ 10)) (nI (hosA (bk h k (σ 8) (σ 9) (σ 10)) q))), .int (meanA (bk h k (σ 8) (σ 9) (σ 10)) (nI q))]) hC hK hZ hA hl.1 hH (k_X11_meanOf_t l G ad σ (nI (hosA (bk h k (σ 8) (σ 9) (σ 10)) q)) h k hb3 hb4 hh4 hk6 hwo hbh) lk_X11_128 rfl 0 10 rfl rfl rfl ⟨Nat.le_of_ble_eq_true rfl, Nat.le_of_ble_eq_true rfl⟩ ⟨Nat.le_refl _, Nat.le_refl _⟩ (Nat.le_of_ble_eq_true rfl) rfl dX11_host_24 (fun H locs hH => ?_)
      refine lv_icmp_le (tgt := 32) hx hb dX11_host_27 (by decide) (fun c27 => ?_) (fun c27 => ?_)
      · refine lv_iinc (v := ((nI q) + 1)) (lv' := [(2, .int ((nI q) + 1)), (0, .ref (ad 0)), (1, .int (nI (hosA (bk h k (σ 8) (σ 9) (σ 10)) q)))]) hx hb dX11_host_32 hl (k := 2) rfl rfl (by decide) rfl (fun ls hl => ?_)
        refine lv_goto (tgt := 4) hx hb dX11_host_35 (by decide) ?_
        exact ih_q (q + 1) (show (q + 1) ≤ 4 from (by omega)) (show 4 - (q + 1) < 4 - q from (by omega)) _ _ _ (hH.eq rfl) (lv_eq (lv_sub hl [1, 2, 0] rfl) (lc_s (lc_i (by first | (rw [hosA_f (Int32.not_lt.mpr c27)]; done) | (rw [hosA_t (Int32.not_le.mp c27)]; done) : (nI (hosA (bk h k (σ 8) (σ 9) (σ 10)) q)) = (nI (hosA (bk h k (σ 8) (σ 9) (σ 10)) (q + 1)))) (lc_i (by exact nI_1 _ : ((nI q) + 1) = (nI (q + 1))) rfl))))
      · refine lv_iload_n hx hb dX11_host_30 rfl (lv_at hl 2 rfl) ?_
        refine lv_istore_n (lv' := [(1, .int (nI q)), (0, .ref (ad 0)), (2, .int (nI q))]) hx hb dX11_host_31 rfl hl (by decide) rfl (fun ls hl => ?_)
        refine lv_iinc (v := ((nI q) + 1)) (lv' := [(2, .int ((nI q) + 1)), (1, .int (nI q)), (0, .ref (ad 0))]) hx hb dX11_host_32 hl (k := 2) rfl rfl (by decide) rfl (fun ls hl => ?_)
        refine lv_goto (tgt := 4) hx hb dX11_host_35 (by decide) ?_
        exact ih_q (q + 1) (show (q + 1) ≤ 4 from (by omega)) (show 4 - (q + 1) < 4 - q from (by omega)) _ _ _ (hH.eq rfl) (lv_eq (lv_sub hl [2, 1, 0] rfl) (lc_s (lc_i (by first | (rw [hosA_f (Int32.not_lt.mpr c27)]; done) | (rw [hosA_t (Int32.not_le.mp c27)]; done) : (nI q) = (nI (hosA (bk h k (σ 8) (σ 9) (σ 10)) (q + 1)))) (lc_i (by exact nI_1 _ : ((nI q) + 1) = (nI (q + 1))) rfl))))
  · exact hH.eq rfl
  · exact lv_eq (lv_sub hl [2, 1, 0] rfl) (lc_s (lc_i (by rw [hosA_1]; rfl : 0 = (nI (hosA (bk h k (σ 8) (σ 9) (σ 10)) 1))) (lc_i (by rfl : 1 = (nI 1)) rfl)))
set_option maxHeartbeats 4000000 in
set_option maxRecDepth 100000 in
theorem k_X11_image (l : Launch) (G : GP) (ad : Nat → Nat) (σ : Nat → Nat → Int32) (h : Nat) (k : Nat) (hb3 : (σ 7 3) = nI h) (hb4 : (σ 7 4) = nI k) (hh4 : h ≤ 4) (hk6 : k ≤ 6) : CT l G yX11_image cX11_image 1 (some .int) 2 [.ref (ad 0)] (WC G ad σ) (some (.int (nI k))) (WC G ad (ua (ua (ua (ua (ua σ 0 (upd (σ 0) 9 1)) 15 (upd (upd (σ 15) 3 (σ 7 3)) 4 (σ 7 4))) 16 (σ 8)) 17 (σ 9)) 18 (σ 10))) := by
  refine x_meth "BetsOnBets" rfl (by decide +kernel) (by rfl) (Nat.le_of_ble_eq_true rfl) ?_
  intro pP eE sS mM args below meth cC A ls hC hr hkL hK hZ hA hH hl
  have hx := hC.1
  have hb := hC.2.1
  have hl : lv_has ls 1 [(0, .ref (ad 0))] := hl
  have pwh := pw4 hh4
  have pwk := pw6 hk6
  have ph1 := Nat.one_le_two_pow (n := h)
  refine lv_aload_n hx hb dX11_image_0 rfl (lv_at hl 0 rfl) ?_
  refine gf_X11_35 (v := .ref (ad 15)) hC hK hH 0 rfl rfl dX11_image_1 ?_
  refine lv_aload_n hx hb dX11_image_4 rfl (lv_at hl 0 rfl) ?_
  refine gf_X11_28 (v := .ref (ad 7)) hC hK hH 0 rfl rfl dX11_image_5 ?_
  refine x_callV (ws' := WC G ad (ua (ua (ua (ua σ 15 (upd (upd (σ 15) 3 (σ 7 3)) 4 (σ 7 4))) 16 (σ 8)) 17 (σ 9)) 18 (σ 10))) (As := [.ref (ad 7)]) (rest := []) (st' := []) hC hK hZ hA hl.1 hH (k_X2_takeFrom l G (pk ad [15, 16, 17, 18, 7, 8, 9, 10]) (pk σ [15, 16, 17, 18, 7, 8, 9, 10])) lk_X11_153 [15, 16, 17, 18, 7, 8, 9, 10] rfl rfl rfl 15 1 rfl rfl rfl ⟨Nat.le_of_ble_eq_true rfl, Nat.le_of_ble_eq_true rfl⟩ ⟨Nat.le_refl _, Nat.le_refl _⟩ (Nat.le_of_ble_eq_true rfl) rfl dX11_image_8 (fun H locs hH => ?_)
  refine lv_aload_n hx hb dX11_image_11 rfl (lv_at hl 0 rfl) ?_
  refine lv_iconst (v := 1) hx hb dX11_image_12 (by decide) ?_
  refine pf_X11_55 (ws' := WC G ad (ua (ua (ua (ua (ua σ 0 (upd (σ 0) 9 1)) 15 (upd (upd (σ 15) 3 (σ 7 3)) 4 (σ 7 4))) 16 (σ 8)) 17 (σ 9)) 18 (σ 10))) hC hK hH 0 rfl rfl rfl (Nat.le_of_ble_eq_true rfl) dX11_image_13 rfl (fun H locs hH => ?_)
  refine lv_aload_n hx hb dX11_image_16 rfl (lv_at hl 0 rfl) ?_
  refine gf_X11_35 (v := .ref (ad 15)) hC hK hH 0 rfl rfl dX11_image_17 ?_
  refine gf_X11_160 (v := .int (σ 7 4)) hC hK hH 15 rfl rfl dX11_image_20 ?_
  refine x_topE (y := (nI k)) hb4 ?_
  exact x_iret hC hr hkL hH rfl rfl dX11_image_23
set_option maxHeartbeats 4000000 in
set_option maxRecDepth 100000 in
theorem k_X11_seeds (l : Launch) (G : GP) (ad : Nat → Nat) (σ : Nat → Nat → Int32) (n : Int32) (z : Int32) (p : Int32) (h : Nat) (k : Nat) (hb3 : (σ 7 3) = nI h) (hb4 : (σ 7 4) = nI k) (hh4 : h ≤ 4) (hk6 : k ≤ 6) (hwo : WO (bk h k (σ 8) (σ 9) (σ 10)) (σ 23) (σ 24)) (hbh : BH (bk h k (σ 8) (σ 9) (σ 10))) : CT l G yX11_seeds cX11_seeds 9 (some .int) 4 [.ref (ad 0), .int n, .int z, .int p] (WC G ad σ) (some (.int (rfB (sdC p n) (sdA (bk h k (σ 8) (σ 9) (σ 10)) p n z)))) (WC G ad (ua σ 31 (rfz (σ 31) (sdC p n)))) := by
  refine x_meth "BetsOnBets" rfl (by decide +kernel) (by rfl) (Nat.le_of_ble_eq_true rfl) ?_
  intro pP eE sS mM args below meth cC A ls hC hr hkL hK hZ hA hH hl
  have hx := hC.1
  have hb := hC.2.1
  have hl : lv_has ls 9 [(0, .ref (ad 0)), (1, .int n), (2, .int z), (3, .int p)] := hl
  have pwh := pw4 hh4
  have pwk := pw6 hk6
  have ph1 := Nat.one_le_two_pow (n := h)
  refine lv_iload_n hx hb dX11_seeds_0 rfl (lv_at hl 3 rfl) ?_
  refine x_callS (ws' := WC G ad σ) (As := [.int p]) (rest := []) (st' := [.int (bI (0 ≤ p ∧ p < 4))]) hC hK hZ hA hl.1 hH (k_X11_isPerson l G (pk ad []) (pk σ []) p) lk_X11_99 [] rfl rfl rfl rfl ⟨Nat.le_of_ble_eq_true rfl, Nat.le_of_ble_eq_true rfl⟩ ⟨Nat.le_refl _, Nat.le_refl _⟩ (Nat.le_of_ble_eq_true rfl) rfl dX11_seeds_1 (fun H locs hH => ?_)
  refine x_bne (tgt := 13) hC dX11_seeds_4 (by decide) (fun c4 => ?_) (fun c4 => ?_)
  · refine lv_iload_n hx hb dX11_seeds_13 rfl (lv_at hl 1 rfl) ?_
    refine lv_iconst (v := 1) hx hb dX11_seeds_14 (by decide) ?_
    refine lv_icmp_ge (tgt := 25) hx hb dX11_seeds_15 (by decide) (fun c15 => ?_) (fun c15 => ?_)
    · refine lv_iload_n hx hb dX11_seeds_25 rfl (lv_at hl 1 rfl) ?_
      refine lv_bipush (v := 30) hx hb dX11_seeds_26 (by decide) ?_
      refine lv_icmp_le (tgt := 38) hx hb dX11_seeds_28 (by decide) (fun c28 => ?_) (fun c28 => ?_)
      · obtain ⟨m_, hm_, en_⟩ : ∃ m, m ≤ 30 ∧ n = nI m := nI_of2 (M := 30) rfl (fun z => absurd (Int32.lt_of_lt_of_le (Int32.lt_of_lt_of_le z (by decide : (0 : Int32) ≤ 1)) c15) (Int32.lt_irrefl)) c28
        refine lv_iload_n hx hb dX11_seeds_38 rfl (lv_at hl 2 rfl) ?_
        refine lv_istore (lv' := [(4, .int z), (0, .ref (ad 0)), (1, .int n), (2, .int z), (3, .int p)]) hx hb dX11_seeds_39 hl (by decide) rfl (fun ls hl => ?_)
        refine lv_iconst (v := 0) hx hb dX11_seeds_41 (by decide) ?_
        refine lv_istore (lv' := [(5, .int 0), (4, .int z), (0, .ref (ad 0)), (1, .int n), (2, .int z), (3, .int p)]) hx hb dX11_seeds_42 hl (by decide) rfl (fun ls hl => ?_)
        refine lv_iconst (v := 0) hx hb dX11_seeds_44 (by decide) ?_
        refine lv_istore (lv' := [(6, .int 0), (5, .int 0), (4, .int z), (0, .ref (ad 0)), (1, .int n), (2, .int z), (3, .int p)]) hx hb dX11_seeds_45 hl (by decide) rfl (fun ls hl => ?_)
        refine x_loop (G := G) (A := A) (H0 := sS.heap) (nL := 9) (α := Nat) (fun q_ => m_ - q_) (fun q_ => q_ ≤ m_) (fun q_ => WC G ad σ) (fun q_ => [(0, .ref (ad 0)), (1, .int n), (2, .int z), (3, .int p), (4, .int ((sdO (bk h k (σ 8) (σ 9) (σ 10)) p z q_).1)), (5, .int ((sdO (bk h k (σ 8) (σ 9) (σ 10)) p z q_).2)), (6, .int (nI q_))]) ?_ 0 (show 0 ≤ m_ from (Nat.zero_le _)) ?_ ?_
        · rintro i hi_i ih_i H locs ls hH hl
          replace hi_i : i ≤ m_ := hi_i
          replace hH : Hx G A (WC G ad σ) sS.heap H locs := hH
          replace hl : lv_has ls 9 [(0, .ref (ad 0)), (1, .int n), (2, .int z), (3, .int p), (4, .int ((sdO (bk h k (σ 8) (σ 9) (σ 10)) p z i).1)), (5, .int ((sdO (bk h k (σ 8) (σ 9) (σ 10)) p z i).2)), (6, .int (nI i))] := hl
          refine lv_iload hx hb dX11_seeds_47 (lv_at hl 6 rfl) ?_
          refine lv_iload_n hx hb dX11_seeds_49 rfl (lv_at hl 1 rfl) ?_
          refine lv_icmp_ge (tgt := 135) hx hb dX11_seeds_50 (by decide) (fun c50 => ?_) (fun c50 => ?_)
          · have ge_i := lp_out (n := m_) en_ (by omega) (by omega) c50
            have eq_i : i = m_ := by omega
            refine lv_iload hx hb dX11_seeds_135 (lv_at hl 5 rfl) ?_
            exact x_iret hC hr hkL hH (by (refine (rfB0 ((cI_t c4).trans (wiC0 (Int32.not_lt.mpr c15) (Int32.not_lt.mpr c28)))).trans ?_); rw [sdA, eq_i, en_, nI_clamp (by omega)]) ((congrArg (fun z_ : Nat → Int32 => WC G ad (ua σ 31 z_)) (by exact rfz0 ((cI_t c4).trans (wiC0 (Int32.not_lt.mpr c15) (Int32.not_lt.mpr c28))) : (rfz (σ 31) (sdC p n)) = (σ 31))).trans (show WC G ad (ua σ 31 (σ 31)) = WC G ad σ from rfl)) dX11_seeds_137
          · have lt_i := lp_in (n := m_) en_ (by omega) (by omega) c50
            refine lv_iconst (v := 0) hx hb dX11_seeds_53 (by decide) ?_
            refine lv_istore (lv' := [(7, .int 0), (0, .ref (ad 0)), (1, .int n), (2, .int z), (3, .int p), (4, .int ((sdO (bk h k (σ 8) (σ 9) (σ 10)) p z i).1)), (5, .int ((sdO (bk h k (σ 8) (σ 9) (σ 10)) p z i).2)), (6, .int (nI i))]) hx hb dX11_seeds_54 hl (by decide) rfl (fun ls hl => ?_)
            refine lv_iconst (v := 0) hx hb dX11_seeds_56 (by decide) ?_
            refine lv_istore (lv' := [(8, .int 0), (7, .int 0), (0, .ref (ad 0)), (1, .int n), (2, .int z), (3, .int p), (4, .int ((sdO (bk h k (σ 8) (σ 9) (σ 10)) p z i).1)), (5, .int ((sdO (bk h k (σ 8) (σ 9) (σ 10)) p z i).2)), (6, .int (nI i))]) hx hb dX11_seeds_57 hl (by decide) rfl (fun ls hl => ?_)
            refine x_loop (G := G) (A := A) (H0 := sS.heap) (nL := 9) (α := Nat) (fun q_ => h - q_) (fun q_ => q_ ≤ h) (fun q_ => WC G ad σ) (fun q_ => [(0, .ref (ad 0)), (1, .int n), (2, .int z), (3, .int p), (4, .int ((sdI (bk h k (σ 8) (σ 9) (σ 10)) (sdO (bk h k (σ 8) (σ 9) (σ 10)) p z i).1 q_).1)), (5, .int ((sdO (bk h k (σ 8) (σ 9) (σ 10)) p z i).2)), (6, .int (nI i)), (7, .int ((sdI (bk h k (σ 8) (σ 9) (σ 10)) (sdO (bk h k (σ 8) (σ 9) (σ 10)) p z i).1 q_).2)), (8, .int (nI q_))]) ?_ 0 (show 0 ≤ h from (Nat.zero_le _)) ?_ ?_
            · rintro q hi_q ih_q H locs ls hH hl
              replace hi_q : q ≤ h := hi_q
              replace hH : Hx G A (WC G ad σ) sS.heap H locs := hH
              replace hl : lv_has ls 9 [(0, .ref (ad 0)), (1, .int n), (2, .int z), (3, .int p), (4, .int ((sdI (bk h k (σ 8) (σ 9) (σ 10)) (sdO (bk h k (σ 8) (σ 9) (σ 10)) p z i).1 q).1)), (5, .int ((sdO (bk h k (σ 8) (σ 9) (σ 10)) p z i).2)), (6, .int (nI i)), (7, .int ((sdI (bk h k (σ 8) (σ 9) (σ 10)) (sdO (bk h k (σ 8) (σ 9) (σ 10)) p z i).1 q).2)), (8, .int (nI q))] := hl
              refine lv_iload hx hb dX11_seeds_59 (lv_at hl 8 rfl) ?_
              refine lv_aload_n hx hb dX11_seeds_61 rfl (lv_at hl 0 rfl) ?_
              refine gf_X11_28 (v := .ref (ad 7)) hC hK hH 0 rfl rfl dX11_seeds_62 ?_
              refine gf_X11_76 (v := .int (σ 7 3)) hC hK hH 7 rfl rfl dX11_seeds_65 ?_
              refine x_topE (y := (nI h)) hb3 ?_
              refine lv_icmp_ge (tgt := 113) hx hb dX11_seeds_68 (by decide) (fun c68 => ?_) (fun c68 => ?_)
              · have ge_q := lp_out (n := h) rfl (by omega) (by omega) c68
                have eq_q : q = h := by omega
                obtain ⟨en2_, hen_, een_⟩ := sdI_end (β := (bk h k (σ 8) (σ 9) (σ 10))) (show bH _ ≤ 4 from hh4) ((sdO (bk h k (σ 8) (σ 9) (σ 10)) p z i).1) h (Nat.le_refl _)
                refine lv_iload hx hb dX11_seeds_113 (lv_at hl 5 rfl) ?_
                refine lv_aload_n hx hb dX11_seeds_115 rfl (lv_at hl 0 rfl) ?_
                refine lv_aload_n hx hb dX11_seeds_116 rfl (lv_at hl 0 rfl) ?_
                refine gf_X11_28 (v := .ref (ad 7)) hC hK hH 0 rfl rfl dX11_seeds_117 ?_
                refine lv_iload_n hx hb dX11_seeds_120 rfl (lv_at hl 3 rfl) ?_
                refine lv_iload hx hb dX11_seeds_121 (lv_at hl 7 rfl) ?_
                refine x_callVA (ws' := WC G ad σ) (As := [.ref (ad 7), .int p, .int ((sdI (bk h k (σ 8) (σ 9) (σ 10)) (sdO (bk h k (σ 8) (σ 9) (σ 10)) p z i).1 q).2)]) (rest := [.int ((sdO (bk h k (σ 8) (σ 9) (σ 10)) p z i).2)]) (st' := [.int (purA (bk h k (σ 8) (σ 9) (σ 10)) p ((sdI (bk h k (σ 8) (σ 9) (σ 10)) (sdO (bk h k (σ 8) (σ 9) (σ 10)) p z i).1 q).2)), .int ((sdO (bk h k (σ 8) (σ 9) (σ 10)) p z i).2)]) hC hK hZ hA hl.1 hH (k_X11_purseOf_t l G ad σ p ((sdI (bk h k (σ 8) (σ 9) (σ 10)) (sdO (bk h k (σ 8) (σ 9) (σ 10)) p z i).1 q).2) h k en2_ hb3 hb4 hh4 hk6 hwo hbh (by rw [eq_q]; exact een_) hen_) lk_X11_124 rfl 0 10 rfl rfl rfl ⟨Nat.le_of_ble_eq_true rfl, Nat.le_of_ble_eq_true rfl⟩ ⟨Nat.le_refl _, Nat.le_refl _⟩ (Nat.le_of_ble_eq_true rfl) rfl dX11_seeds_123 (fun H locs hH => ?_)
                refine lv_iadd hx hb dX11_seeds_126 ?_
                refine lv_istore (lv' := [(5, .int (((sdO (bk h k (σ 8) (σ 9) (σ 10)) p z i).2) + (purA (bk h k (σ 8) (σ 9) (σ 10)) p ((sdI (bk h k (σ 8) (σ 9) (σ 10)) (sdO (bk h k (σ 8) (σ 9) (σ 10)) p z i).1 q).2)))), (0, .ref (ad 0)), (1, .int n), (2, .int z), (3, .int p), (4, .int ((sdI (bk h k (σ 8) (σ 9) (σ 10)) (sdO (bk h k (σ 8) (σ 9) (σ 10)) p z i).1 q).1)), (6, .int (nI i)), (7, .int ((sdI (bk h k (σ 8) (σ 9) (σ 10)) (sdO (bk h k (σ 8) (σ 9) (σ 10)) p z i).1 q).2)), (8, .int (nI q))]) hx hb dX11_seeds_127 hl (by decide) rfl (fun ls hl => ?_)
                refine lv_iinc (v := ((nI i) + 1)) (lv' := [(6, .int ((nI i) + 1)), (5, .int (((sdO (bk h k (σ 8) (σ 9) (σ 10)) p z i).2) + (purA (bk h k (σ 8) (σ 9) (σ 10)) p ((sdI (bk h k (σ 8) (σ 9) (σ 10)) (sdO (bk h k (σ 8) (σ 9) (σ 10)) p z i).1 q).2)))), (0, .ref (ad 0)), (1, .int n), (2, .int z), (3, .int p), (4, .int ((sdI (bk h k (σ 8) (σ 9) (σ 10)) (sdO (bk h k (σ 8) (σ 9) (σ 10)) p z i).1 q).1)), (7, .int ((sdI (bk h k (σ 8) (σ 9) (σ 10)) (sdO (bk h k (σ 8) (σ 9) (σ 10)) p z i).1 q).2)), (8, .int (nI q))]) hx hb dX11_seeds_129 hl (k := 6) rfl rfl (by decide) rfl (fun ls hl => ?_)
                refine lv_goto (tgt := 47) hx hb dX11_seeds_132 (by decide) ?_
                exact ih_i (i + 1) (show (i + 1) ≤ m_ from (by omega)) (show m_ - (i + 1) < m_ - i from (by omega)) _ _ _ (hH.eq rfl) (lv_eq (lv_sub hl [2, 3, 4, 5, 6, 1, 0] rfl) (lc_s (lc_s (lc_s (lc_s (lc_i (by rw [eq_q]; rfl : (sdI (bk h k (σ 8) (σ 9) (σ 10)) (sdO (bk h k (σ 8) (σ 9) (σ 10)) p z i).1 q).1 = (sdO (bk h k (σ 8) (σ 9) (σ 10)) p z (i + 1)).1) (lc_i (by rw [eq_q]; rfl : (((sdO (bk h k (σ 8) (σ 9) (σ 10)) p z i).2) + (purA (bk h k (σ 8) (σ 9) (σ 10)) p ((sdI (bk h k (σ 8) (σ 9) (σ 10)) (sdO (bk h k (σ 8) (σ 9) (σ 10)) p z i).1 q).2))) = (sdO (bk h k (σ 8) (σ 9) (σ 10)) p z (i + 1)).2) (lc_i (by exact nI_1 _ : ((nI i) + 1) = (nI (i + 1))) rfl))))))))
              · have lt_q := lp_in (n := h) rfl (by omega) (by omega) c68
                refine lv_iload hx hb dX11_seeds_71 (lv_at hl 4 rfl) ?_
                refine lv_ldc (v := 1664525) hx hb hC.2.2.2.1 (hC.2.2.2.2 _ wd_736) dX11_seeds_73 ?_
                refine lv_imul hx hb dX11_seeds_75 ?_
                refine lv_ldc (v := 1013904223) hx hb hC.2.2.2.1 (hC.2.2.2.2 _ wd_737) dX11_seeds_76 ?_
                refine lv_iadd hx hb dX11_seeds_78 ?_
                refine lv_istore (lv' := [(4, .int ((((sdI (bk h k (σ 8) (σ 9) (σ 10)) (sdO (bk h k (σ 8) (σ 9) (σ 10)) p z i).1 q).1) * 1664525) + 1013904223)), (0, .ref (ad 0)), (1, .int n), (2, .int z), (3, .int p), (5, .int ((sdO (bk h k (σ 8) (σ 9) (σ 10)) p z i).2)), (6, .int (nI i)), (7, .int ((sdI (bk h k (σ 8) (σ 9) (σ 10)) (sdO (bk h k (σ 8) (σ 9) (σ 10)) p z i).1 q).2)), (8, .int (nI q))]) hx hb dX11_seeds_79 hl (by decide) rfl (fun ls hl => ?_)
                refine lv_iload hx hb dX11_seeds_81 (lv_at hl 0 rfl) ?_
                refine x_callS (ws' := WC G ad σ) (As := [.int ((((sdI (bk h k (σ 8) (σ 9) (σ 10)) (sdO (bk h k (σ 8) (σ 9) (σ 10)) p z i).1 q).1) * 1664525) + 1013904223)]) (rest := []) (st' := [.int (drw ((((sdI (bk h k (σ 8) (σ 9) (σ 10)) (sdO (bk h k (σ 8) (σ 9) (σ 10)) p z i).1 q).1) * 1664525) + 1013904223))]) hC hK hZ hA hl.1 hH (k_X11_drawBy l G (pk ad []) (pk σ []) ((((sdI (bk h k (σ 8) (σ 9) (σ 10)) (sdO (bk h k (σ 8) (σ 9) (σ 10)) p z i).1 q).1) * 1664525) + 1013904223)) lk_X11_191 [] rfl rfl rfl rfl ⟨Nat.le_of_ble_eq_true rfl, Nat.le_of_ble_eq_true rfl⟩ ⟨Nat.le_refl _, Nat.le_refl _⟩ (Nat.le_of_ble_eq_true rfl) rfl dX11_seeds_83 (fun H locs hH => ?_)
                refine lv_aload_n hx hb dX11_seeds_86 rfl (lv_at hl 1 rfl) ?_
                refine gf_X11_28 (v := .ref (ad 7)) hC hK hH 0 rfl rfl dX11_seeds_87 ?_
                refine lv_iload hx hb dX11_seeds_90 (lv_at hl 8 rfl) ?_
                refine x_callV (ws' := WC G ad σ) (As := [.int (nI q)]) (rest := [.int (drw ((((sdI (bk h k (σ 8) (σ 9) (σ 10)) (sdO (bk h k (σ 8) (σ 9) (σ 10)) p z i).1 q).1) * 1664525) + 1013904223))]) (st' := [.int ((σ 8) q), .int (drw ((((sdI (bk h k (σ 8) (σ 9) (σ 10)) (sdO (bk h k (σ 8) (σ 9) (σ 10)) p z i).1 q).1) * 1664525) + 1013904223))]) hC hK hZ hA hl.1 hH (k_X2_chanceOf l G (pk ad [7, 8, 9, 10]) (pk σ [7, 8, 9, 10]) (nI q) q rfl (by omega)) lk_X11_84 [7, 8, 9, 10] rfl rfl rfl 7 1 rfl rfl rfl ⟨Nat.le_of_ble_eq_true rfl, Nat.le_of_ble_eq_true rfl⟩ ⟨Nat.le_refl _, Nat.le_refl _⟩ (Nat.le_of_ble_eq_true rfl) rfl dX11_seeds_92 (fun H locs hH => ?_)
                refine lv_icmp_ge (tgt := 107) hx hb dX11_seeds_95 (by decide) (fun c95 => ?_) (fun c95 => ?_)
                · refine lv_iinc (v := ((nI q) + 1)) (lv' := [(8, .int ((nI q) + 1)), (4, .int ((((sdI (bk h k (σ 8) (σ 9) (σ 10)) (sdO (bk h k (σ 8) (σ 9) (σ 10)) p z i).1 q).1) * 1664525) + 1013904223)), (0, .ref (ad 0)), (1, .int n), (2, .int z), (3, .int p), (5, .int ((sdO (bk h k (σ 8) (σ 9) (σ 10)) p z i).2)), (6, .int (nI i)), (7, .int ((sdI (bk h k (σ 8) (σ 9) (σ 10)) (sdO (bk h k (σ 8) (σ 9) (σ 10)) p z i).1 q).2))]) hx hb dX11_seeds_107 hl (k := 8) rfl rfl (by decide) rfl (fun ls hl => ?_)
                  refine lv_goto (tgt := 59) hx hb dX11_seeds_110 (by decide) ?_
                  exact ih_q (q + 1) (show (q + 1) ≤ h from (by omega)) (show h - (q + 1) < h - q from (by omega)) _ _ _ (hH.eq rfl) (lv_eq (lv_sub hl [2, 3, 4, 5, 1, 6, 7, 8, 0] rfl) (lc_s (lc_s (lc_s (lc_s (lc_i (by rfl : ((((sdI (bk h k (σ 8) (σ 9) (σ 10)) (sdO (bk h k (σ 8) (σ 9) (σ 10)) p z i).1 q).1) * 1664525) + 1013904223) = (sdI (bk h k (σ 8) (σ 9) (σ 10)) (sdO (bk h k (σ 8) (σ 9) (σ 10)) p z i).1 (q + 1)).1) (lc_s (lc_s (lc_i (by first | exact sdI_t c95 | (refine Eq.trans ?_ (sdI_f c95); exact (i_or0 _).symm) : (sdI (bk h k (σ 8) (σ 9) (σ 10)) (sdO (bk h k (σ 8) (σ 9) (σ 10)) p z i).1 q).2 = (sdI (bk h k (σ 8) (σ 9) (σ 10)) (sdO (bk h k (σ 8) (σ 9) (σ 10)) p z i).1 (q + 1)).2) (lc_i (by exact nI_1 _ : ((nI q) + 1) = (nI (q + 1))) rfl))))))))))
                · refine lv_iload hx hb dX11_seeds_98 (lv_at hl 7 rfl) ?_
                  refine lv_iconst (v := 1) hx hb dX11_seeds_100 (by decide) ?_
                  refine lv_iload hx hb dX11_seeds_101 (lv_at hl 8 rfl) ?_
                  refine lv_ishl hx hb dX11_seeds_103 ?_
                  refine lv_ior hx hb dX11_seeds_104 ?_
                  refine lv_istore (lv' := [(7, .int (((sdI (bk h k (σ 8) (σ 9) (σ 10)) (sdO (bk h k (σ 8) (σ 9) (σ 10)) p z i).1 q).2) ||| ((1 : Int32) <<< ((nI q) &&& 31)))), (4, .int ((((sdI (bk h k (σ 8) (σ 9) (σ 10)) (sdO (bk h k (σ 8) (σ 9) (σ 10)) p z i).1 q).1) * 1664525) + 1013904223)), (0, .ref (ad 0)), (1, .int n), (2, .int z), (3, .int p), (5, .int ((sdO (bk h k (σ 8) (σ 9) (σ 10)) p z i).2)), (6, .int (nI i)), (8, .int (nI q))]) hx hb dX11_seeds_105 hl (by decide) rfl (fun ls hl => ?_)
                  refine lv_iinc (v := ((nI q) + 1)) (lv' := [(8, .int ((nI q) + 1)), (7, .int (((sdI (bk h k (σ 8) (σ 9) (σ 10)) (sdO (bk h k (σ 8) (σ 9) (σ 10)) p z i).1 q).2) ||| ((1 : Int32) <<< ((nI q) &&& 31)))), (4, .int ((((sdI (bk h k (σ 8) (σ 9) (σ 10)) (sdO (bk h k (σ 8) (σ 9) (σ 10)) p z i).1 q).1) * 1664525) + 1013904223)), (0, .ref (ad 0)), (1, .int n), (2, .int z), (3, .int p), (5, .int ((sdO (bk h k (σ 8) (σ 9) (σ 10)) p z i).2)), (6, .int (nI i))]) hx hb dX11_seeds_107 hl (k := 8) rfl rfl (by decide) rfl (fun ls hl => ?_)
                  refine lv_goto (tgt := 59) hx hb dX11_seeds_110 (by decide) ?_
                  exact ih_q (q + 1) (show (q + 1) ≤ h from (by omega)) (show h - (q + 1) < h - q from (by omega)) _ _ _ (hH.eq rfl) (lv_eq (lv_sub hl [3, 4, 5, 6, 2, 7, 8, 1, 0] rfl) (lc_s (lc_s (lc_s (lc_s (lc_i (by rfl : ((((sdI (bk h k (σ 8) (σ 9) (σ 10)) (sdO (bk h k (σ 8) (σ 9) (σ 10)) p z i).1 q).1) * 1664525) + 1013904223) = (sdI (bk h k (σ 8) (σ 9) (σ 10)) (sdO (bk h k (σ 8) (σ 9) (σ 10)) p z i).1 (q + 1)).1) (lc_s (lc_s (lc_i (by first | exact sdI_t c95 | (refine Eq.trans ?_ (sdI_f c95); exact (i_or0 _).symm) : (((sdI (bk h k (σ 8) (σ 9) (σ 10)) (sdO (bk h k (σ 8) (σ 9) (σ 10)) p z i).1 q).2) ||| ((1 : Int32) <<< ((nI q) &&& 31))) = (sdI (bk h k (σ 8) (σ 9) (σ 10)) (sdO (bk h k (σ 8) (σ 9) (σ 10)) p z i).1 (q + 1)).2) (lc_i (by exact nI_1 _ : ((nI q) + 1) = (nI (q + 1))) rfl))))))))))
            · exact hH.eq rfl
            · exact lv_eq (lv_sub hl [2, 3, 4, 5, 6, 7, 8, 1, 0] rfl) (lc_s (lc_s (lc_s (lc_s (lc_i (by rfl : (sdO (bk h k (σ 8) (σ 9) (σ 10)) p z i).1 = (sdI (bk h k (σ 8) (σ 9) (σ 10)) (sdO (bk h k (σ 8) (σ 9) (σ 10)) p z i).1 0).1) (lc_s (lc_s (lc_i (by rfl : 0 = (sdI (bk h k (σ 8) (σ 9) (σ 10)) (sdO (bk h k (σ 8) (σ 9) (σ 10)) p z i).1 0).2) (lc_i (by rfl : 0 = (nI 0)) rfl)))))))))
        · exact hH.eq rfl
        · exact lv_eq (lv_sub hl [3, 4, 5, 6, 2, 1, 0] rfl) (lc_s (lc_s (lc_s (lc_s (lc_i (by rfl : z = (sdO (bk h k (σ 8) (σ 9) (σ 10)) p z 0).1) (lc_i (by rfl : 0 = (sdO (bk h k (σ 8) (σ 9) (σ 10)) p z 0).2) (lc_i (by rfl : 0 = (nI 0)) rfl)))))))
      · refine lv_aload_n hx hb dX11_seeds_31 rfl (lv_at hl 0 rfl) ?_
        refine lv_bipush (v := (-6)) hx hb dX11_seeds_32 (by decide) ?_
        refine x_callVA (ws' := WC G ad (ua σ 31 (upd (σ 31) 6 ((σ 31) 6 + 1)))) (As := [.int (-6)]) (rest := []) (st' := [.int (1000000000 - (-6))]) hC hK hZ hA hl.1 hH (k_X11_refusedFar l G ad σ (-6) 6 rfl (by decide)) lk_X11_121 rfl 0 10 rfl rfl rfl ⟨Nat.le_of_ble_eq_true rfl, Nat.le_of_ble_eq_true rfl⟩ ⟨Nat.le_refl _, Nat.le_refl _⟩ (Nat.le_of_ble_eq_true rfl) rfl dX11_seeds_34 (fun H locs hH => ?_)
        exact x_iret hC hr hkL hH (by exact rfBk ((cI_t c4).trans (wiC6 (Int32.not_lt.mpr c15) (Int32.not_le.mp c28))) (by decide)) (congrArg (fun z_ : Nat → Int32 => WC G ad (ua σ 31 z_)) (by exact rfzk ((cI_t c4).trans (wiC6 (Int32.not_lt.mpr c15) (Int32.not_le.mp c28))) (by decide) : (rfz (σ 31) (sdC p n)) = (upd (σ 31) 6 ((σ 31) 6 + 1)))) dX11_seeds_37
    · refine lv_aload_n hx hb dX11_seeds_18 rfl (lv_at hl 0 rfl) ?_
      refine lv_bipush (v := (-4)) hx hb dX11_seeds_19 (by decide) ?_
      refine x_callVA (ws' := WC G ad (ua σ 31 (upd (σ 31) 4 ((σ 31) 4 + 1)))) (As := [.int (-4)]) (rest := []) (st' := [.int (1000000000 - (-4))]) hC hK hZ hA hl.1 hH (k_X11_refusedFar l G ad σ (-4) 4 rfl (by decide)) lk_X11_121 rfl 0 10 rfl rfl rfl ⟨Nat.le_of_ble_eq_true rfl, Nat.le_of_ble_eq_true rfl⟩ ⟨Nat.le_refl _, Nat.le_refl _⟩ (Nat.le_of_ble_eq_true rfl) rfl dX11_seeds_21 (fun H locs hH => ?_)
      exact x_iret hC hr hkL hH (by exact rfBk ((cI_t c4).trans (wiC4 (Int32.not_le.mp c15))) (by decide)) (congrArg (fun z_ : Nat → Int32 => WC G ad (ua σ 31 z_)) (by exact rfzk ((cI_t c4).trans (wiC4 (Int32.not_le.mp c15))) (by decide) : (rfz (σ 31) (sdC p n)) = (upd (σ 31) 4 ((σ 31) 4 + 1)))) dX11_seeds_24
  · refine lv_aload_n hx hb dX11_seeds_7 rfl (lv_at hl 0 rfl) ?_
    refine lv_iconst (v := (-1)) hx hb dX11_seeds_8 (by decide) ?_
    refine x_callVA (ws' := WC G ad (ua σ 31 (upd (σ 31) 1 ((σ 31) 1 + 1)))) (As := [.int (-1)]) (rest := []) (st' := [.int (1000000000 - (-1))]) hC hK hZ hA hl.1 hH (k_X11_refusedFar l G ad σ (-1) 1 rfl (by decide)) lk_X11_121 rfl 0 10 rfl rfl rfl ⟨Nat.le_of_ble_eq_true rfl, Nat.le_of_ble_eq_true rfl⟩ ⟨Nat.le_refl _, Nat.le_refl _⟩ (Nat.le_of_ble_eq_true rfl) rfl dX11_seeds_9 (fun H locs hH => ?_)
    exact x_iret hC hr hkL hH (by exact rfBk (cI_f c4) (by decide)) (congrArg (fun z_ : Nat → Int32 => WC G ad (ua σ 31 z_)) (by exact rfzk (cI_f c4) (by decide) : (rfz (σ 31) (sdC p n)) = (upd (σ 31) 1 ((σ 31) 1 + 1)))) dX11_seeds_12
