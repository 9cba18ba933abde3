/-! the class: voids, trials, funds, rings, the row, on, count -/
theorem stD3 : ∀ s, s < 64 → ∀ a, a < 64 → ∀ b, b < 6 → ¬ s &&& a = a ∨ ¬ (nI a >>> (nI b &&& 31)) &&& 1 = 1 ∨ ¬ ((nI s - nI a) >>> (nI b &&& 31)) &&& 1 = 1 := by decide +kernel
theorem voD1 : ∀ o, o < 64 → ∀ b, b < 6 → ¬ (nI o >>> (nI b &&& 31)) &&& 1 = 1 ∨ nI (o % 2 ^ b) ||| (1 : Int32) <<< (nI b &&& 31) = nI (o % 2 ^ (b + 1)) := by decide +kernel
theorem voD2 : ∀ o, o < 64 → ∀ b, b < 6 → (nI o >>> (nI b &&& 31)) &&& 1 = 1 ∨ o % 2 ^ b = o % 2 ^ (b + 1) := by decide +kernel
theorem vIn_o {β : Bk} {e s : Int32} {o : Nat} (hk : bK β ≤ 6) (ho : o < 64) (h : ∀ b, b < bK β → (stP β e b = 2 ↔ tb (nI o) (nI b))) : ∀ b, b ≤ bK β → vIn β e s b = s ||| nI (o % 2 ^ b) := by
  intro b
  induction b with
  | zero => intro _; rw [Nat.pow_zero, Nat.mod_one]; exact (i_or0 s).symm
  | succ b ih =>
    intro hb
    have i := ih (by omega)
    have hh := h b (by omega)
    by_cases q : stP β e b = 2
    · rw [vIn_t q, i, Int32.or_assoc, (voD1 o ho b (by omega)).resolve_left (fun z => z (hh.mp q))]
    · rw [vIn_f q, i, (voD2 o ho b (by omega)).resolve_left (fun z => q (hh.mpr z))]
theorem stW_2 {won opn b : Int32} (h : tb won b → ¬ tb opn b) : stW won opn b = 2 ↔ tb opn b := by
  unfold stW
  by_cases q : tb won b
  · rw [cI_t q]; exact ⟨fun z => absurd z (by decide), fun z => absurd z (h q)⟩
  · rw [cI_f q]
    by_cases r : tb opn b
    · rw [cI_t r]; exact ⟨fun _ => r, fun _ => rfl⟩
    · rw [cI_f r]; exact ⟨fun z => absurd z (by decide), fun z => absurd z r⟩
theorem vo_of {β : Bk} {Mn Fs Wn Op : Nat → Int32} (hk : bK β ≤ 6) (h : WyE β Mn Fs Wn Op) : ∀ e, e < 2 ^ bH β → ∀ s, vIn β (nI e) s (bK β) = s ||| Op e := by
  intro e he s0
  have pk := pw6 hk
  have p1 := Nat.one_le_two_pow (n := bK β)
  have wo := wo_of hk h e he
  rw [(h e he).2.2.1, (h e he).2.2.2] at wo
  rw [(h e he).2.2.2]
  obtain ⟨n, s, a, hn, e1, hs, ha, hsa, e3, r⟩ := fwI (e := nI e) hk _ (Nat.le_refl (2 ^ bK β))
  have key : ∃ o, o < 2 ^ bK β ∧ wyO β e = nI o ∧ ∀ b, b < bK β → tb (wyW β e) (nI b) → ¬ tb (wyO β e) (nI b) := by
    rw [wyW, wyO, wonF, opF, fwA, e1, e3]
    rcases r with ⟨r0, rs, re⟩ | ⟨r0, re⟩
    · subst r0
      rw [if_neg (by decide), if_neg (by decide)]
      exact ⟨2 ^ bK β - 1, by omega, g_pred (by omega), fun b hb z => absurd z (stD0 _ (show bK β < 7 by omega) b hb).1⟩
    · have np : 0 < nI n := nI_lt (a := 0) r0 (by omega)
      have al : a ≤ s := by rw [← hsa]; exact Nat.and_le_left
      rw [if_pos np, if_pos np, re]
      exact ⟨s - a, by omega, pk_sub al, fun b hb z => ((stD3 s (by omega) a (by omega) b (by omega)).resolve_left (fun y => y hsa)).resolve_left (fun y => y z)⟩
  obtain ⟨o, ho, eo, hd⟩ := key
  rw [vIn_o (o := o) hk (by omega) (fun b hb => by rw [← wo b hb, ← eo]; exact stW_2 (hd b hb)) _ (Nat.le_refl _), Nat.mod_eq_of_lt ho, eo]
/-- the same book but for stakes, odds, people -/
def BE (β γ : Bk) : Prop := β.1 = γ.1 ∧ bC β = bC γ ∧ ∀ j w, w < 3 → nm β j w = nm γ j w
theorem won_be {β γ : Bk} (h : BE β γ) (j : Nat) (e w : Int32) : wonB β j e w ↔ wonB γ j e w := by
  unfold wonB
  rw [h.2.2 j 0 (by decide), h.2.2 j 1 (by decide), h.2.2 j 2 (by decide)]
theorem bK_be {β γ : Bk} (h : BE β γ) : bK β = bK γ := congrArg Prod.snd h.1
theorem bH_be {β γ : Bk} (h : BE β γ) : bH β = bH γ := congrArg Prod.fst h.1
theorem way_be {β γ : Bk} (h : BE β γ) (e w : Int32) : isWayP β e w ↔ isWayP γ e w := by
  unfold isWayP
  rw [bK_be h]
  exact ⟨fun q j hj => (won_be h j e w).symm.trans (q j hj), fun q j hj => (won_be h j e w).trans (q j hj)⟩
theorem fw_be {β γ : Bk} (h : BE β γ) (e : Int32) : ∀ i, fw β e i = fw γ e i := by
  intro i
  induction i with
  | zero => show ((0 : Int32), (-9 : Int32), (0 : Int32), nI (2 ^ bK β) - 1) = ((0 : Int32), (-9 : Int32), (0 : Int32), nI (2 ^ bK γ) - 1); rw [bK_be h]
  | succ i ih =>
    by_cases q : isWayP γ e (nI i)
    · rw [fw_t ((way_be h e _).mpr q), fw_t q, ih]
    · rw [fw_f (fun z => q ((way_be h e _).mp z)), fw_f q, ih]
theorem stP_be {β γ : Bk} (h : BE β γ) (e : Int32) (b : Nat) : stP β e b = stP γ e b := by
  unfold stP fwA
  rw [bK_be h, fw_be h]
theorem wo_be {β γ : Bk} (h : BE β γ) {Wn Op : Nat → Int32} (w : WO γ Wn Op) : WO β Wn Op := by
  intro e he b hb
  rw [stP_be h]
  rw [bH_be h] at he
  rw [bK_be h] at hb
  exact w e he b hb
theorem be_set {β : Bk} {b u : Nat} {v : Int32} (h3 : 3 ≤ u) (h7 : u < 7) : BE (bSet β (7 * b + u) v) β := ⟨rfl, rfl, fun j w hw => pk_un (show 7 * j + w ≠ 7 * b + u by omega)⟩
theorem nm_set {β : Bk} {b u : Nat} {v : Int32} (j w : Nat) (h : ¬ w = u) (hw : w < 7) (hu : u < 7) : nm (bSet β (7 * b + u) v) j w = nm β j w := pk_un (show 7 * j + w ≠ 7 * b + u by omega)
theorem nm_set_s {β : Bk} {b u : Nat} {v : Int32} : nm (bSet β (7 * b + u) v) b u = v := pk_us
theorem bh_set {β : Bk} {b u : Nat} {v : Int32} (h : BH β) (h5 : u < 5) : BH (bSet β (7 * b + u) v) := by
  intro j hj
  rw [nm_set j 5 (by omega) (by decide) (by omega), nm_set j 6 (by omega) (by decide) (by omega)]
  exact h j hj
def SB (β : Bk) : Prop := ∀ b, b < bK β → (0 ≤ (nm β b 3).toInt ∧ (nm β b 3).toInt ≤ 99) ∧ (0 ≤ (nm β b 4).toInt ∧ (nm β b 4).toInt ≤ 9)
theorem sb_3 {β : Bk} {b : Nat} {v : Int32} (h : SB β) (hv : 0 ≤ v.toInt ∧ v.toInt ≤ 99) : SB (bSet β (7 * b + 3) v) := by
  intro j hj
  refine ⟨?_, by rw [nm_set j 4 (by decide) (by decide) (by decide)]; exact (h j hj).2⟩
  by_cases q : j = b
  · subst q; rw [nm_set_s]; exact hv
  · rw [show nm (bSet β (7 * b + 3) v) j 3 = nm β j 3 from pk_un (show 7 * j + 3 ≠ 7 * b + 3 by omega)]; exact (h j hj).1
theorem mul_b {a o : Int32} (ha : 0 ≤ a.toInt ∧ a.toInt ≤ 99) (ho : 0 ≤ o.toInt ∧ o.toInt ≤ 9) : 0 ≤ (a * o).toInt ∧ (a * o).toInt ≤ 891 := by
  have h1 : 0 ≤ a.toInt * o.toInt := Int.mul_nonneg ha.1 ho.1
  have h2 : a.toInt * o.toInt ≤ 99 * 9 := Int.mul_le_mul ha.2 ho.2 ho.1 (by decide)
  rw [Int32.toInt_mul, Int.bmod_eq_of_le (by omega) (by omega)]
  omega
theorem neg_b {a : Int32} {A : Int} (hA : A ≤ 100000) (ha : -A ≤ a.toInt ∧ a.toInt ≤ A) : -A ≤ (-a).toInt ∧ (-a).toInt ≤ A := by
  rw [Int32.toInt_neg, Int.bmod_eq_of_le (by omega) (by omega)]
  omega
theorem dlt_b {β : Bk} {p e : Int32} {b : Nat} (h : (0 ≤ (nm β b 3).toInt ∧ (nm β b 3).toInt ≤ 99) ∧ (0 ≤ (nm β b 4).toInt ∧ (nm β b 4).toInt ≤ 9)) : -891 ≤ (dltR β p e b).toInt ∧ (dltR β p e b).toInt ≤ 891 := by
  have m := mul_b h.1 h.2
  have mn := neg_b (a := nm β b 3 * nm β b 4) (A := 891) (by decide) (by omega)
  have an := neg_b (a := nm β b 3) (A := 891) (by decide) (by omega)
  have z0 : (0 : Int32).toInt = 0 := rfl
  unfold dltR sideR
  split
  · split
    · rw [Int32.one_mul]; omega
    · split
      · rw [Int32.neg_mul, Int32.one_mul, Int32.neg_mul]; exact mn
      · rw [Int32.zero_mul, Int32.zero_mul]; omega
  · split
    · split
      · rw [Int32.neg_mul, Int32.one_mul]; exact an
      · split
        · rw [Int32.neg_neg, Int32.one_mul]; omega
        · rw [Int32.neg_zero, Int32.zero_mul]; omega
    · omega
theorem pur_b {β : Bk} (h : SB β) (hk : bK β ≤ 6) (p e : Int32) : ∀ b, b ≤ bK β → -891 * (b : Int) ≤ (purR β p e b).toInt ∧ (purR β p e b).toInt ≤ 891 * (b : Int) := by
  intro b
  induction b with
  | zero => intro _; rw [show purR β p e 0 = 0 from rfl]; decide
  | succ b ih =>
    intro hb
    have i := ih (by omega)
    have d := dlt_b (p := p) (e := e) (h b (by omega))
    rw [purR_s, Int32.toInt_add, Int.bmod_eq_of_le (by omega) (by omega)]
    omega
theorem pb_of {β : Bk} (h : SB β) (hk : bK β ≤ 6) : PB β := by
  intro p e he
  have := pur_b h hk p (nI e) _ (Nat.le_refl _)
  unfold purA
  omega
def FB (F : Nat → Int32) : Prop := ∀ j, j < 4 → 0 ≤ (F j).toInt ∧ (F j).toInt ≤ 99
theorem cp_iff {x f : Int32} (hx : -100000 ≤ x.toInt ∧ x.toInt ≤ 100000) (hf : 0 ≤ f.toInt ∧ f.toInt ≤ 99) : f < -x ↔ ¬ 0 ≤ x + f := by
  have z0 : (0 : Int32).toInt = 0 := rfl
  rw [Int32.lt_iff_toInt_lt, Int32.le_iff_toInt_le, Int32.toInt_neg, Int32.toInt_add, Int.bmod_eq_of_le (by omega) (by omega), Int.bmod_eq_of_le (by omega) (by omega)]
  omega
theorem cp_t {β : Bk} {e : Int32} {p : Nat} (h : bF β p < -purA β (nI p) e) : cpS β e p ||| (1 : Int32) <<< (nI p &&& 31) = cpS β e (p + 1) := by rw [cpS, if_pos h]
theorem cp_f {β : Bk} {e : Int32} {p : Nat} (h : ¬ bF β p < -purA β (nI p) e) : cpS β e p = cpS β e (p + 1) := by rw [cpS, if_neg h]; exact (i_or0 _).symm
noncomputable def waI (R : Nat → Int32) (m : Nat) : Nat → Nat → Int32
  | 0 => R
  | i + 1 => cI (tb (waI R m i i) (nI m)) (upd (waI R m i) i (waI R m i i ||| waI R m i m)) (waI R m i)
noncomputable def waO (R : Nat → Int32) (k : Nat) : Nat → Nat → Int32
  | 0 => R
  | m + 1 => waI (waO R k m) m k
noncomputable def waA (R : Nat → Int32) : Nat → Int32
  | 0 => 0
  | b + 1 => waA R b ||| (R b &&& (1 : Int32) <<< (nI b &&& 31))
theorem waI_t {R : Nat → Int32} {m i : Nat} (h : tb (waI R m i i) (nI m)) : upd (waI R m i) i (waI R m i i ||| waI R m i m) = waI R m (i + 1) := (cI_t h).symm
theorem waI_f {R : Nat → Int32} {m i : Nat} (h : ¬ tb (waI R m i i) (nI m)) : waI R m i = waI R m (i + 1) := (cI_f h).symm
theorem cgt11 {w : Int32} (h : ¬ w < 11) : 10 < w := by
  have e : (10 : Int32).toInt = 10 ∧ (11 : Int32).toInt = 11 := ⟨rfl, rfl⟩
  rw [Int32.lt_iff_toInt_lt] at h ⊢; omega
theorem lt11 {w : Int32} (h : 10 < w) : ¬ w < 11 := by
  have e : (10 : Int32).toInt = 10 ∧ (11 : Int32).toInt = 11 := ⟨rfl, rfl⟩
  rw [Int32.lt_iff_toInt_lt] at h ⊢; omega
theorem clt16 {w : Int32} (h : ¬ 16 < w) : w < 17 := by
  have e : (16 : Int32).toInt = 16 ∧ (17 : Int32).toInt = 17 := ⟨rfl, rfl⟩
  rw [Int32.lt_iff_toInt_lt] at h ⊢; omega
theorem lt17 {w : Int32} (h : w < 17) : ¬ 16 < w := by
  have e : (16 : Int32).toInt = 16 ∧ (17 : Int32).toInt = 17 := ⟨rfl, rfl⟩
  rw [Int32.lt_iff_toInt_lt] at h ⊢; omega
set_option maxHeartbeats 4000000 in
set_option maxRecDepth 100000 in
theorem k_X11_voids (l : Launch) (G : GP) (ad : Nat → Nat) (σ : Nat → Nat → Int32) (h : Nat) (k : Nat) (hb3 : (σ 7 3) = nI h) (hb4 : (σ 7 4) = nI k) (hh4 : h ≤ 4) (hk6 : k ≤ 6) (hwe : WyE (bk h k (σ 8) (σ 9) (σ 10)) (σ 21) (σ 22) (σ 23) (σ 24)) : CT l G yX11_voids cX11_voids 4 (some .int) 2 [.ref (ad 0)] (WC G ad σ) (some (.int (vOut (bk h k (σ 8) (σ 9) (σ 10)) (2 ^ h)))) (WC G ad σ) := by
  refine x_meth "BetsOnBets" rfl (by decide +kernel) (by rfl) (Nat.le_of_ble_eq_true rfl) ?_
  intro pP eE sS mM args below meth cC A ls hC hr hkL hK hZ hA hH hl
  have hx := hC.1
  have hb := hC.2.1
  have hl : lv_has ls 4 [(0, .ref (ad 0))] := hl
  have pwh := pw4 hh4
  have pwk := pw6 hk6
  have ph1 := Nat.one_le_two_pow (n := h)
  refine lv_aload_n hx hb dX11_voids_0 rfl (lv_at hl 0 rfl) ?_
  refine gf_X11_28 (v := .ref (ad 7)) hC hK hH 0 rfl rfl dX11_voids_1 ?_
  refine x_callV (ws' := WC G ad σ) (As := []) (rest := []) (st' := [.int (nI (2 ^ h))]) hC hK hZ hA hl.1 hH (k_X2_ends l G (pk ad [7, 8, 9, 10]) (pk σ [7, 8, 9, 10]) h k hb3 hb4 hh4 hk6) lk_X11_139 [7, 8, 9, 10] rfl rfl rfl 7 1 rfl rfl rfl ⟨Nat.le_of_ble_eq_true rfl, Nat.le_of_ble_eq_true rfl⟩ ⟨Nat.le_refl _, Nat.le_refl _⟩ (Nat.le_of_ble_eq_true rfl) rfl dX11_voids_4 (fun H locs hH => ?_)
  refine lv_istore_n (lv' := [(1, .int (nI (2 ^ h))), (0, .ref (ad 0))]) hx hb dX11_voids_7 rfl hl (by decide) rfl (fun ls hl => ?_)
  refine lv_iconst (v := 0) hx hb dX11_voids_8 (by decide) ?_
  refine lv_istore_n (lv' := [(2, .int 0), (1, .int (nI (2 ^ h))), (0, .ref (ad 0))]) hx hb dX11_voids_9 rfl hl (by decide) rfl (fun ls hl => ?_)
  refine lv_iconst (v := 0) hx hb dX11_voids_10 (by decide) ?_
  refine lv_istore_n (lv' := [(3, .int 0), (2, .int 0), (1, .int (nI (2 ^ h))), (0, .ref (ad 0))]) hx hb dX11_voids_11 rfl hl (by decide) rfl (fun ls hl => ?_)
  refine x_loop (G := G) (A := A) (H0 := sS.heap) (nL := 4) (α := Nat) (fun q_ => (2 ^ h) - q_) (fun q_ => q_ ≤ (2 ^ h)) (fun q_ => WC G ad σ) (fun q_ => [(0, .ref (ad 0)), (1, .int (nI (2 ^ h))), (2, .int (vOut (bk h k (σ 8) (σ 9) (σ 10)) q_)), (3, .int (nI q_))]) ?_ 0 (show 0 ≤ (2 ^ h) from (Nat.zero_le _)) ?_ ?_
  · rintro e hi_e ih_e H locs ls hH hl
    replace hi_e : e ≤ (2 ^ h) := hi_e
    replace hH : Hx G A (WC G ad σ) sS.heap H locs := hH
    replace hl : lv_has ls 4 [(0, .ref (ad 0)), (1, .int (nI (2 ^ h))), (2, .int (vOut (bk h k (σ 8) (σ 9) (σ 10)) e)), (3, .int (nI e))] := hl
    refine lv_iload_n hx hb dX11_voids_12 rfl (lv_at hl 3 rfl) ?_
    refine lv_iload_n hx hb dX11_voids_13 rfl (lv_at hl 1 rfl) ?_
    refine lv_icmp_ge (tgt := 34) hx hb dX11_voids_14 (by decide) (fun c14 => ?_) (fun c14 => ?_)
    · have ge_e := lp_out (n := 2 ^ h) rfl (by omega) (by omega) c14
      have eq_e : e = 2 ^ h := by omega
      refine lv_iload_n hx hb dX11_voids_34 rfl (lv_at hl 2 rfl) ?_
      exact x_iret hC hr hkL hH (by rw [eq_e]) rfl dX11_voids_35
    · have lt_e := lp_in (n := 2 ^ h) rfl (by omega) (by omega) c14
      refine lv_iload_n hx hb dX11_voids_17 rfl (lv_at hl 2 rfl) ?_
      refine lv_aload_n hx hb dX11_voids_18 rfl (lv_at hl 0 rfl) ?_
      refine gf_X11_41 (v := .ref (ad 19)) hC hK hH 0 rfl rfl dX11_voids_19 ?_
      refine lv_iload_n hx hb dX11_voids_22 rfl (lv_at hl 3 rfl) ?_
      refine x_callV (ws' := WC G ad σ) (As := [.int (nI e)]) (rest := [.int (vOut (bk h k (σ 8) (σ 9) (σ 10)) e)]) (st' := [.int ((σ 24) e), .int (vOut (bk h k (σ 8) (σ 9) (σ 10)) e)]) hC hK hZ hA hl.1 hH (k_X10_voidIn l G (pk ad [19, 20, 21, 22, 23, 24, 25, 26, 27, 28, 29, 30]) (pk σ [19, 20, 21, 22, 23, 24, 25, 26, 27, 28, 29, 30]) (nI e) e rfl (by omega)) lk_X11_150 [19, 20, 21, 22, 23, 24, 25, 26, 27, 28, 29, 30] rfl rfl rfl 19 9 rfl rfl rfl ⟨Nat.le_of_ble_eq_true rfl, Nat.le_of_ble_eq_true rfl⟩ ⟨Nat.le_refl _, Nat.le_refl _⟩ (Nat.le_of_ble_eq_true rfl) rfl dX11_voids_23 (fun H locs hH => ?_)
      refine lv_ior hx hb dX11_voids_26 ?_
      refine lv_istore_n (lv' := [(2, .int ((vOut (bk h k (σ 8) (σ 9) (σ 10)) e) ||| ((σ 24) e))), (0, .ref (ad 0)), (1, .int (nI (2 ^ h))), (3, .int (nI e))]) hx hb dX11_voids_27 rfl hl (by decide) rfl (fun ls hl => ?_)
      refine lv_iinc (v := ((nI e) + 1)) (lv' := [(3, .int ((nI e) + 1)), (2, .int ((vOut (bk h k (σ 8) (σ 9) (σ 10)) e) ||| ((σ 24) e))), (0, .ref (ad 0)), (1, .int (nI (2 ^ h)))]) hx hb dX11_voids_28 hl (k := 3) rfl rfl (by decide) rfl (fun ls hl => ?_)
      refine lv_goto (tgt := 12) hx hb dX11_voids_31 (by decide) ?_
      exact ih_e (e + 1) (show (e + 1) ≤ (2 ^ h) from (by omega)) (show (2 ^ h) - (e + 1) < (2 ^ h) - e from (by omega)) _ _ _ (hH.eq rfl) (lv_eq (lv_sub hl [2, 3, 1, 0] rfl) (lc_s (lc_s (lc_i (by exact (vo_of (β := bk h k (σ 8) (σ 9) (σ 10)) hk6 hwe e lt_e _).symm : ((vOut (bk h k (σ 8) (σ 9) (σ 10)) e) ||| ((σ 24) e)) = (vOut (bk h k (σ 8) (σ 9) (σ 10)) (e + 1))) (lc_i (by exact nI_1 _ : ((nI e) + 1) = (nI (e + 1))) rfl)))))
  · exact hH.eq rfl
  · exact lv_eq (lv_sub hl [3, 2, 1, 0] rfl) (lc_s (lc_s (lc_i (by rfl : 0 = (vOut (bk h k (σ 8) (σ 9) (σ 10)) 0)) (lc_i (by rfl : 0 = (nI 0)) rfl))))
set_option maxHeartbeats 4000000 in
set_option maxRecDepth 100000 in
theorem k_X11_cannotPay (l : Launch) (G : GP) (ad : Nat → Nat) (σ : Nat → Nat → Int32) (e : Int32) (h : Nat) (k : Nat) (hb3 : (σ 7 3) = nI h) (hb4 : (σ 7 4) = nI k) (hh4 : h ≤ 4) (hk6 : k ≤ 6) (hwo : WO (bk h k (σ 8) (σ 9) (σ 10)) (σ 23) (σ 24)) (hbh : BH (bk h k (σ 8) (σ 9) (σ 10))) (hsb : SB (bk h k (σ 8) (σ 9) (σ 10))) (hfb : FB (σ 10)) : CT l G yX11_cannotPay cX11_cannotPay 4 (some .int) 4 [.ref (ad 0), .int e] (WC G ad σ) (some (.int (rfA (hbC e (2 ^ h)) (cpS (bk h k (σ 8) (σ 9) (σ 10)) e 4)))) (WC G ad (ua σ 31 (rfz (σ 31) (hbC e (2 ^ h))))) := by
  refine x_meth "BetsOnBets" rfl (by decide +kernel) (by rfl) (Nat.le_of_ble_eq_true rfl) ?_
  intro pP eE sS mM args below meth cC A ls hC hr hkL hK hZ hA hH hl
  have hx := hC.1
  have hb := hC.2.1
  have hl : lv_has ls 4 [(0, .ref (ad 0)), (1, .int e)] := hl
  have pwh := pw4 hh4
  have pwk := pw6 hk6
  have ph1 := Nat.one_le_two_pow (n := h)
  have hpb : PB (bk h k (σ 8) (σ 9) (σ 10)) := pb_of hsb hk6
  refine lv_aload_n hx hb dX11_cannotPay_0 rfl (lv_at hl 0 rfl) ?_
  refine gf_X11_28 (v := .ref (ad 7)) hC hK hH 0 rfl rfl dX11_cannotPay_1 ?_
  refine lv_iload_n hx hb dX11_cannotPay_4 rfl (lv_at hl 1 rfl) ?_
  refine x_callV (ws' := WC G ad σ) (As := [.int e]) (rest := []) (st' := [.int (bI (inb e (2 ^ h)))]) hC hK hZ hA hl.1 hH (k_X2_hasEnd l G (pk ad [7, 8, 9, 10]) (pk σ [7, 8, 9, 10]) e h k hb3 hb4 hh4 hk6) lk_X11_109 [7, 8, 9, 10] rfl rfl rfl 7 1 rfl rfl rfl ⟨Nat.le_of_ble_eq_true rfl, Nat.le_of_ble_eq_true rfl⟩ ⟨Nat.le_refl _, Nat.le_refl _⟩ (Nat.le_of_ble_eq_true rfl) rfl dX11_cannotPay_5 (fun H locs hH => ?_)
  refine x_bne (tgt := 17) hC dX11_cannotPay_8 (by decide) (fun c8 => ?_) (fun c8 => ?_)
  · obtain ⟨ej_, hej_, ee_⟩ := inb_of (by omega) c8
    refine lv_iconst (v := 0) hx hb dX11_cannotPay_17 (by decide) ?_
    refine lv_istore_n (lv' := [(2, .int 0), (0, .ref (ad 0)), (1, .int e)]) hx hb dX11_cannotPay_18 rfl hl (by decide) rfl (fun ls hl => ?_)
    refine lv_iconst (v := 0) hx hb dX11_cannotPay_19 (by decide) ?_
    refine lv_istore_n (lv' := [(3, .int 0), (2, .int 0), (0, .ref (ad 0)), (1, .int e)]) hx hb dX11_cannotPay_20 rfl hl (by decide) rfl (fun ls hl => ?_)
    refine x_loop (G := G) (A := A) (H0 := sS.heap) (nL := 4) (α := Nat) (fun q_ => 4 - q_) (fun q_ => q_ ≤ 4) (fun q_ => WC G ad σ) (fun q_ => [(0, .ref (ad 0)), (1, .int e), (2, .int (cpS (bk h k (σ 8) (σ 9) (σ 10)) e q_)), (3, .int (nI q_))]) ?_ 0 (show 0 ≤ 4 from (Nat.zero_le _)) ?_ ?_
    · rintro p hi_p ih_p H locs ls hH hl
      replace hi_p : p ≤ 4 := hi_p
      replace hH : Hx G A (WC G ad σ) sS.heap H locs := hH
      replace hl : lv_has ls 4 [(0, .ref (ad 0)), (1, .int e), (2, .int (cpS (bk h k (σ 8) (σ 9) (σ 10)) e p)), (3, .int (nI p))] := hl
      refine lv_iload_n hx hb dX11_cannotPay_21 rfl (lv_at hl 3 rfl) ?_
      refine lv_iconst (v := 4) hx hb dX11_cannotPay_22 (by decide) ?_
      refine lv_icmp_ge (tgt := 60) hx hb dX11_cannotPay_23 (by decide) (fun c23 => ?_) (fun c23 => ?_)
      · have ge_p := lp_out (n := 4) rfl (by omega) (by omega) c23
        have eq_p : p = 4 := by omega
        subst eq_p
        refine lv_iload_n hx hb dX11_cannotPay_60 rfl (lv_at hl 2 rfl) ?_
        exact x_iret hC hr hkL hH (by (refine (rfA0 (cI_t c8)).trans ?_); rfl) ((congrArg (fun z_ : Nat → Int32 => WC G ad (ua σ 31 z_)) (by exact rfz0 (cI_t c8) : (rfz (σ 31) (hbC e (2 ^ h))) = (σ 31))).trans (show WC G ad (ua σ 31 (σ 31)) = WC G ad σ from rfl)) dX11_cannotPay_61
      · have lt_p := lp_in (n := 4) rfl (by omega) (by omega) c23
        refine lv_aload_n hx hb dX11_cannotPay_26 rfl (lv_at hl 0 rfl) ?_
        refine lv_aload_n hx hb dX11_cannotPay_27 rfl (lv_at hl 0 rfl) ?_
        refine gf_X11_28 (v := .ref (ad 7)) hC hK hH 0 rfl rfl dX11_cannotPay_28 ?_
        refine lv_iload_n hx hb dX11_cannotPay_31 rfl (lv_at hl 3 rfl) ?_
        refine lv_iload_n hx hb dX11_cannotPay_32 rfl (lv_at hl 1 rfl) ?_
        refine x_callVA (ws' := WC G ad σ) (As := [.ref (ad 7), .int (nI p), .int e]) (rest := []) (st' := [.int (purA (bk h k (σ 8) (σ 9) (σ 10)) (nI p) e)]) hC hK hZ hA hl.1 hH (k_X11_purseOf_t l G ad σ (nI p) e h k ej_ hb3 hb4 hh4 hk6 hwo hbh ee_ hej_) lk_X11_124 rfl 0 10 rfl rfl rfl ⟨Nat.le_of_ble_eq_true rfl, Nat.le_of_ble_eq_true rfl⟩ ⟨Nat.le_refl _, Nat.le_refl _⟩ (Nat.le_of_ble_eq_true rfl) rfl dX11_cannotPay_33 (fun H locs hH => ?_)
        refine lv_aload_n hx hb dX11_cannotPay_36 rfl (lv_at hl 0 rfl) ?_
        refine gf_X11_28 (v := .ref (ad 7)) hC hK hH 0 rfl rfl dX11_cannotPay_37 ?_
        refine lv_iload_n hx hb dX11_cannotPay_40 rfl (lv_at hl 3 rfl) ?_
        refine x_callV (ws' := WC G ad σ) (As := [.int (nI p)]) (rest := [.int (purA (bk h k (σ 8) (σ 9) (σ 10)) (nI p) e)]) (st' := [.int ((σ 10) p), .int (purA (bk h k (σ 8) (σ 9) (σ 10)) (nI p) e)]) hC hK hZ hA hl.1 hH (k_X2_fundOf l G (pk ad [7, 8, 9, 10]) (pk σ [7, 8, 9, 10]) (nI p) p rfl (by omega)) lk_X11_102 [7, 8, 9, 10] rfl rfl rfl 7 1 rfl rfl rfl ⟨Nat.le_of_ble_eq_true rfl, Nat.le_of_ble_eq_true rfl⟩ ⟨Nat.le_refl _, Nat.le_refl _⟩ (Nat.le_of_ble_eq_true rfl) rfl dX11_cannotPay_41 (fun H locs hH => ?_)
        refine lv_iadd hx hb dX11_cannotPay_44 ?_
        refine lv_if_ge (tgt := 54) hx hb dX11_cannotPay_45 (by decide) (fun c45 => ?_) (fun c45 => ?_)
        · refine lv_iinc (v := ((nI p) + 1)) (lv' := [(3, .int ((nI p) + 1)), (0, .ref (ad 0)), (1, .int e), (2, .int (cpS (bk h k (σ 8) (σ 9) (σ 10)) e p))]) hx hb dX11_cannotPay_54 hl (k := 3) rfl rfl (by decide) rfl (fun ls hl => ?_)
          refine lv_goto (tgt := 21) hx hb dX11_cannotPay_57 (by decide) ?_
          exact ih_p (p + 1) (show (p + 1) ≤ 4 from (by omega)) (show 4 - (p + 1) < 4 - p from (by omega)) _ _ _ (hH.eq rfl) (lv_eq (lv_sub hl [1, 2, 3, 0] rfl) (lc_s (lc_s (lc_i (by first | (refine cp_f (fun z => (cp_iff (by rw [ee_]; exact hpb (nI p) ej_ hej_) (hfb p lt_p)).mp z c45)) | (refine cp_t ((cp_iff (by rw [ee_]; exact hpb (nI p) ej_ hej_) (hfb p lt_p)).mpr c45)) : (cpS (bk h k (σ 8) (σ 9) (σ 10)) e p) = (cpS (bk h k (σ 8) (σ 9) (σ 10)) e (p + 1))) (lc_i (by exact nI_1 _ : ((nI p) + 1) = (nI (p + 1))) rfl)))))
        · refine lv_iload_n hx hb dX11_cannotPay_48 rfl (lv_at hl 2 rfl) ?_
          refine lv_iconst (v := 1) hx hb dX11_cannotPay_49 (by decide) ?_
          refine lv_iload_n hx hb dX11_cannotPay_50 rfl (lv_at hl 3 rfl) ?_
          refine lv_ishl hx hb dX11_cannotPay_51 ?_
          refine lv_ior hx hb dX11_cannotPay_52 ?_
          refine lv_istore_n (lv' := [(2, .int ((cpS (bk h k (σ 8) (σ 9) (σ 10)) e p) ||| ((1 : Int32) <<< ((nI p) &&& 31)))), (0, .ref (ad 0)), (1, .int e), (3, .int (nI p))]) hx hb dX11_cannotPay_53 rfl hl (by decide) rfl (fun ls hl => ?_)
          refine lv_iinc (v := ((nI p) + 1)) (lv' := [(3, .int ((nI p) + 1)), (2, .int ((cpS (bk h k (σ 8) (σ 9) (σ 10)) e p) ||| ((1 : Int32) <<< ((nI p) &&& 31)))), (0, .ref (ad 0)), (1, .int e)]) hx hb dX11_cannotPay_54 hl (k := 3) rfl rfl (by decide) rfl (fun ls hl => ?_)
          refine lv_goto (tgt := 21) hx hb dX11_cannotPay_57 (by decide) ?_
          exact ih_p (p + 1) (show (p + 1) ≤ 4 from (by omega)) (show 4 - (p + 1) < 4 - p from (by omega)) _ _ _ (hH.eq rfl) (lv_eq (lv_sub hl [2, 3, 1, 0] rfl) (lc_s (lc_s (lc_i (by first | (refine cp_f (fun z => (cp_iff (by rw [ee_]; exact hpb (nI p) ej_ hej_) (hfb p lt_p)).mp z c45)) | (refine cp_t ((cp_iff (by rw [ee_]; exact hpb (nI p) ej_ hej_) (hfb p lt_p)).mpr c45)) : ((cpS (bk h k (σ 8) (σ 9) (σ 10)) e p) ||| ((1 : Int32) <<< ((nI p) &&& 31))) = (cpS (bk h k (σ 8) (σ 9) (σ 10)) e (p + 1))) (lc_i (by exact nI_1 _ : ((nI p) + 1) = (nI (p + 1))) rfl)))))
    · exact hH.eq rfl
    · exact lv_eq (lv_sub hl [2, 3, 1, 0] rfl) (lc_s (lc_s (lc_i (by rfl : 0 = (cpS (bk h k (σ 8) (σ 9) (σ 10)) e 0)) (lc_i (by rfl : 0 = (nI 0)) rfl))))
  · refine lv_aload_n hx hb dX11_cannotPay_11 rfl (lv_at hl 0 rfl) ?_
    refine lv_iconst (v := (-1)) hx hb dX11_cannotPay_12 (by decide) ?_
    refine x_callVA (ws' := WC G ad (ua σ 31 (upd (σ 31) 1 ((σ 31) 1 + 1)))) (As := [.int (-1)]) (rest := []) (st' := [.int (-1)]) hC hK hZ hA hl.1 hH (k_X11_refused l G ad σ (-1) 1 rfl (by decide)) lk_X11_80 rfl 0 10 rfl rfl rfl ⟨Nat.le_of_ble_eq_true rfl, Nat.le_of_ble_eq_true rfl⟩ ⟨Nat.le_refl _, Nat.le_refl _⟩ (Nat.le_of_ble_eq_true rfl) rfl dX11_cannotPay_13 (fun H locs hH => ?_)
    exact x_iret hC hr hkL hH (by exact rfAk (cI_f c8) (by decide)) (congrArg (fun z_ : Nat → Int32 => WC G ad (ua σ 31 z_)) (by exact rfzk (cI_f c8) (by decide) : (rfz (σ 31) (hbC e (2 ^ h))) = (upd (σ 31) 1 ((σ 31) 1 + 1)))) dX11_cannotPay_16
set_option maxHeartbeats 4000000 in
set_option maxRecDepth 100000 in
theorem k_X11_firstUnlike (l : Launch) (G : GP) (ad : Nat → Nat) (σ : Nat → Nat → Int32) (e : Int32) (h : Nat) (k : Nat) (ej : Nat) (n : Nat) (hb3 : (σ 7 3) = nI h) (hb4 : (σ 7 4) = nI k) (hh4 : h ≤ 4) (hk6 : k ≤ 6) (hwo : WO (bk h k (σ 8) (σ 9) (σ 10)) (σ 23) (σ 24)) (hbh : BH (bk h k (σ 8) (σ 9) (σ 10))) (he : e = nI ej) (he2 : ej < 2 ^ h) (hn : (σ 3 1) = nI n) (hn4 : n ≤ 4) : CT l G yX11_firstUnlike cX11_firstUnlike 3 (some .int) 4 [.ref (ad 0), .int e] (WC G ad σ) (some (.int (wrA (bk h k (σ 8) (σ 9) (σ 10)) (σ 4) n e))) (WC G ad σ) := by
  refine x_meth "BetsOnBets" rfl (by decide +kernel) (by rfl) (Nat.le_of_ble_eq_true rfl) ?_
  intro pP eE sS mM args below meth cC A ls hC hr hkL hK hZ hA hH hl
  have hx := hC.1
  have hb := hC.2.1
  have hl : lv_has ls 3 [(0, .ref (ad 0)), (1, .int e)] := hl
  have pwh := pw4 hh4
  have pwk := pw6 hk6
  have ph1 := Nat.one_le_two_pow (n := h)
  refine lv_iconst (v := 0) hx hb dX11_firstUnlike_0 (by decide) ?_
  refine lv_istore_n (lv' := [(2, .int 0), (0, .ref (ad 0)), (1, .int e)]) hx hb dX11_firstUnlike_1 rfl hl (by decide) rfl (fun ls hl => ?_)
  refine x_loop (G := G) (A := A) (H0 := sS.heap) (nL := 3) (α := Nat) (fun q_ => n - q_) (fun q_ => q_ ≤ n ∧ wrS (bk h k (σ 8) (σ 9) (σ 10)) (σ 4) e n (n - q_) = wrA (bk h k (σ 8) (σ 9) (σ 10)) (σ 4) n e) (fun q_ => WC G ad σ) (fun q_ => [(0, .ref (ad 0)), (1, .int e), (2, .int (nI q_))]) ?_ 0 (show 0 ≤ n ∧ wrS (bk h k (σ 8) (σ 9) (σ 10)) (σ 4) e n (n - 0) = wrA (bk h k (σ 8) (σ 9) (σ 10)) (σ 4) n e from ⟨by omega, rfl⟩) ?_ ?_
  · rintro p hi_p ih_p H locs ls hH hl
    replace hi_p : p ≤ n ∧ wrS (bk h k (σ 8) (σ 9) (σ 10)) (σ 4) e n (n - p) = wrA (bk h k (σ 8) (σ 9) (σ 10)) (σ 4) n e := hi_p
    replace hH : Hx G A (WC G ad σ) sS.heap H locs := hH
    replace hl : lv_has ls 3 [(0, .ref (ad 0)), (1, .int e), (2, .int (nI p))] := hl
    have hi_p1 := hi_p.1
    refine lv_iload_n hx hb dX11_firstUnlike_2 rfl (lv_at hl 2 rfl) ?_
    refine lv_aload_n hx hb dX11_firstUnlike_3 rfl (lv_at hl 0 rfl) ?_
    refine gf_X11_21 (v := .ref (ad 3)) hC hK hH 0 rfl rfl dX11_firstUnlike_4 ?_
    refine gf_X11_200 (v := .int (σ 3 1)) hC hK hH 3 rfl rfl dX11_firstUnlike_7 ?_
    refine lv_icmp_ge (tgt := 46) hx hb dX11_firstUnlike_10 (by decide) (fun c10 => ?_) (fun c10 => ?_)
    · have ge_p := lp_out (n := n) hn (by omega) (by omega) c10
      have eq_p : p = n := by omega
      refine lv_bipush (v := (-9)) hx hb dX11_firstUnlike_46 (by decide) ?_
      exact x_iret hC hr hkL hH (by rw [← hi_p.2, eq_p, Nat.sub_self]; rfl) rfl dX11_firstUnlike_48
    · have lt_p := lp_in (n := n) hn (by omega) (by omega) c10
      refine lv_aload_n hx hb dX11_firstUnlike_13 rfl (lv_at hl 0 rfl) ?_
      refine gf_X11_21 (v := .ref (ad 3)) hC hK hH 0 rfl rfl dX11_firstUnlike_14 ?_
      refine lv_iload_n hx hb dX11_firstUnlike_17 rfl (lv_at hl 2 rfl) ?_
      refine x_callV (ws' := WC G ad σ) (As := [.int (nI p)]) (rest := []) (st' := [.int (atF (σ 4) 4 (nI p))]) hC hK hZ hA hl.1 hH (k_X9_get l G 4 (pk ad [3, 4]) (pk σ [3, 4]) (nI p) (by decide)) lk_X11_243 [3, 4] rfl rfl rfl 3 8 rfl rfl rfl ⟨Nat.le_of_ble_eq_true rfl, Nat.le_of_ble_eq_true rfl⟩ ⟨Nat.le_refl _, Nat.le_refl _⟩ (Nat.le_of_ble_eq_true rfl) rfl dX11_firstUnlike_18 (fun H locs hH => ?_)
      refine x_topE (y := ((σ 4) p)) (atF_in rfl (by omega) (by decide)) ?_
      refine lv_aload_n hx hb dX11_firstUnlike_21 rfl (lv_at hl 0 rfl) ?_
      refine lv_aload_n hx hb dX11_firstUnlike_22 rfl (lv_at hl 0 rfl) ?_
      refine gf_X11_28 (v := .ref (ad 7)) hC hK hH 0 rfl rfl dX11_firstUnlike_23 ?_
      refine lv_iload_n hx hb dX11_firstUnlike_26 rfl (lv_at hl 2 rfl) ?_
      refine lv_iload_n hx hb dX11_firstUnlike_27 rfl (lv_at hl 1 rfl) ?_
      refine x_callVA (ws' := WC G ad σ) (As := [.ref (ad 7), .int (nI p), .int e]) (rest := [.int ((σ 4) p)]) (st' := [.int (purA (bk h k (σ 8) (σ 9) (σ 10)) (nI p) e), .int ((σ 4) p)]) hC hK hZ hA hl.1 hH (k_X11_purseOf_t l G ad σ (nI p) e h k ej hb3 hb4 hh4 hk6 hwo hbh he he2) lk_X11_124 rfl 0 10 rfl rfl rfl ⟨Nat.le_of_ble_eq_true rfl, Nat.le_of_ble_eq_true rfl⟩ ⟨Nat.le_refl _, Nat.le_refl _⟩ (Nat.le_of_ble_eq_true rfl) rfl dX11_firstUnlike_28 (fun H locs hH => ?_)
      refine lv_sipush (v := 500) hx hb dX11_firstUnlike_31 (by decide) ?_
      refine lv_iadd hx hb dX11_firstUnlike_34 ?_
      refine lv_icmp_eq (tgt := 40) hx hb dX11_firstUnlike_35 (by decide) (fun c35 => ?_) (fun c35 => ?_)
      · refine lv_iinc (v := ((nI p) + 1)) (lv' := [(2, .int ((nI p) + 1)), (0, .ref (ad 0)), (1, .int e)]) hx hb dX11_firstUnlike_40 hl (k := 2) rfl rfl (by decide) rfl (fun ls hl => ?_)
        refine lv_goto (tgt := 2) hx hb dX11_firstUnlike_43 (by decide) ?_
        exact ih_p (p + 1) (show (p + 1) ≤ n ∧ wrS (bk h k (σ 8) (σ 9) (σ 10)) (σ 4) e n (n - (p + 1)) = wrA (bk h k (σ 8) (σ 9) (σ 10)) (σ 4) n e from ⟨by omega, by rw [← wrS_t lt_p c35]; exact hi_p.2⟩) (show n - (p + 1) < n - p from (by omega)) _ _ _ (hH.eq rfl) (lv_eq (lv_sub hl [1, 2, 0] rfl) (lc_s (lc_s (lc_i (by first | rfl | exact nI_1 _ | simp : ((nI p) + 1) = (nI (p + 1))) rfl))))
      · refine lv_iload_n hx hb dX11_firstUnlike_38 rfl (lv_at hl 2 rfl) ?_
        exact x_iret hC hr hkL hH (by rw [← hi_p.2, wrS_f lt_p c35]) rfl dX11_firstUnlike_39
  · exact hH.eq rfl
  · exact lv_eq (lv_sub hl [1, 2, 0] rfl) (lc_s (lc_s (lc_i (by rfl : 0 = (nI 0)) rfl)))
set_option maxHeartbeats 4000000 in
set_option maxRecDepth 100000 in
theorem k_X11_judge (l : Launch) (G : GP) (ad : Nat → Nat) (σ : Nat → Nat → Int32) (e : Int32) (h : Nat) (k : Nat) (n : Nat) (hb3 : (σ 7 3) = nI h) (hb4 : (σ 7 4) = nI k) (hh4 : h ≤ 4) (hk6 : k ≤ 6) (hwo : WO (bk h k (σ 8) (σ 9) (σ 10)) (σ 23) (σ 24)) (hbh : BH (bk h k (σ 8) (σ 9) (σ 10))) (hn : (σ 3 1) = nI n) (hn4 : n ≤ 4) : CT l G yX11_judge cX11_judge 3 (some .int) 5 [.ref (ad 0), .int e] (WC G ad σ) (some (.int (rfA (hbC e (2 ^ h)) (wrA (bk h k (σ 8) (σ 9) (σ 10)) (σ 4) n e)))) (WC G ad (ua (ua σ 3 (upd (σ 3) 1 (ifz (hbC e (2 ^ h)) 0 (nI n)))) 31 (rfz (σ 31) (hbC e (2 ^ h))))) := by
  refine x_meth "BetsOnBets" rfl (by decide +kernel) (by rfl) (Nat.le_of_ble_eq_true rfl) ?_
  intro pP eE sS mM args below meth cC A ls hC hr hkL hK hZ hA hH hl
  have hx := hC.1
  have hb := hC.2.1
  have hl : lv_has ls 3 [(0, .ref (ad 0)), (1, .int e)] := hl
  have pwh := pw4 hh4
  have pwk := pw6 hk6
  have ph1 := Nat.one_le_two_pow (n := h)
  refine lv_aload_n hx hb dX11_judge_0 rfl (lv_at hl 0 rfl) ?_
  refine gf_X11_28 (v := .ref (ad 7)) hC hK hH 0 rfl rfl dX11_judge_1 ?_
  refine lv_iload_n hx hb dX11_judge_4 rfl (lv_at hl 1 rfl) ?_
  refine x_callV (ws' := WC G ad σ) (As := [.int e]) (rest := []) (st' := [.int (bI (inb e (2 ^ h)))]) hC hK hZ hA hl.1 hH (k_X2_hasEnd l G (pk ad [7, 8, 9, 10]) (pk σ [7, 8, 9, 10]) e h k hb3 hb4 hh4 hk6) lk_X11_109 [7, 8, 9, 10] rfl rfl rfl 7 1 rfl rfl rfl ⟨Nat.le_of_ble_eq_true rfl, Nat.le_of_ble_eq_true rfl⟩ ⟨Nat.le_refl _, Nat.le_refl _⟩ (Nat.le_of_ble_eq_true rfl) rfl dX11_judge_5 (fun H locs hH => ?_)
  refine x_bne (tgt := 17) hC dX11_judge_8 (by decide) (fun c8 => ?_) (fun c8 => ?_)
  · obtain ⟨ej_, hej_, ee_⟩ := inb_of (by omega) c8
    refine lv_aload_n hx hb dX11_judge_17 rfl (lv_at hl 0 rfl) ?_
    refine lv_iload_n hx hb dX11_judge_18 rfl (lv_at hl 1 rfl) ?_
    refine x_callVA (ws' := WC G ad σ) (As := [.int e]) (rest := []) (st' := [.int (wrA (bk h k (σ 8) (σ 9) (σ 10)) (σ 4) n e)]) hC hK hZ hA hl.1 hH (k_X11_firstUnlike l G ad σ e h k ej_ n hb3 hb4 hh4 hk6 hwo hbh ee_ hej_ hn hn4) lk_X11_181 rfl 0 10 rfl rfl rfl ⟨Nat.le_of_ble_eq_true rfl, Nat.le_of_ble_eq_true rfl⟩ ⟨Nat.le_refl _, Nat.le_refl _⟩ (Nat.le_of_ble_eq_true rfl) rfl dX11_judge_19 (fun H locs hH => ?_)
    refine lv_istore_n (lv' := [(2, .int (wrA (bk h k (σ 8) (σ 9) (σ 10)) (σ 4) n e)), (0, .ref (ad 0)), (1, .int e)]) hx hb dX11_judge_22 rfl hl (by decide) rfl (fun ls hl => ?_)
    refine lv_aload_n hx hb dX11_judge_23 rfl (lv_at hl 1 rfl) ?_
    refine gf_X11_21 (v := .ref (ad 3)) hC hK hH 0 rfl rfl dX11_judge_24 ?_
    refine x_callV (ws' := WC G ad (ua σ 3 (upd (σ 3) 1 0))) (As := []) (rest := []) (st' := []) hC hK hZ hA hl.1 hH (k_X9_clear l G 4 (pk ad [3, 4]) (pk σ [3, 4])) lk_X11_73 [3, 4] rfl rfl rfl 3 8 rfl rfl rfl ⟨Nat.le_of_ble_eq_true rfl, Nat.le_of_ble_eq_true rfl⟩ ⟨Nat.le_refl _, Nat.le_refl _⟩ (Nat.le_of_ble_eq_true rfl) rfl dX11_judge_27 (fun H locs hH => ?_)
    refine lv_iload_n hx hb dX11_judge_30 rfl (lv_at hl 0 rfl) ?_
    exact x_iret hC hr hkL hH (by (refine (rfA0 (show hbC e (2 ^ h) = 0 from cI_t c8)).trans ?_); rfl) (((congrArg (fun z_ : Nat → Int32 => WC G ad (ua (ua σ 3 z_) 31 (rfz (σ 31) (hbC e (2 ^ h))))) (by first | ((refine (ifz0 (show hbC e (2 ^ h) = 0 from cI_t c8)).trans ?_); rfl) | rw [ifz0 (show hbC e (2 ^ h) = 0 from cI_t c8)] : (upd (σ 3) 1 (ifz (hbC e (2 ^ h)) 0 (nI n))) = (upd (σ 3) 1 0))).trans (congrArg (fun z_ : Nat → Int32 => WC G ad (ua (ua σ 3 (upd (σ 3) 1 0)) 31 z_)) (by exact rfz0 (show hbC e (2 ^ h) = 0 from cI_t c8) : (rfz (σ 31) (hbC e (2 ^ h))) = (σ 31)))).trans (show WC G ad (ua (ua σ 3 (upd (σ 3) 1 0)) 31 (σ 31)) = WC G ad (ua σ 3 (upd (σ 3) 1 0)) from rfl)) dX11_judge_31
  · refine lv_aload_n hx hb dX11_judge_11 rfl (lv_at hl 0 rfl) ?_
    refine lv_iconst (v := (-1)) hx hb dX11_judge_12 (by decide) ?_
    refine x_callVA (ws' := WC G ad (ua σ 31 (upd (σ 31) 1 ((σ 31) 1 + 1)))) (As := [.int (-1)]) (rest := []) (st' := [.int (-1)]) hC hK hZ hA hl.1 hH (k_X11_refused l G ad σ (-1) 1 rfl (by decide)) lk_X11_80 rfl 0 10 rfl rfl rfl ⟨Nat.le_of_ble_eq_true rfl, Nat.le_of_ble_eq_true rfl⟩ ⟨Nat.le_refl _, Nat.le_refl _⟩ (Nat.le_of_ble_eq_true rfl) rfl dX11_judge_13 (fun H locs hH => ?_)
    exact x_iret hC hr hkL hH (by exact rfAk (cI_f c8) (by decide)) (((congrArg (fun z_ : Nat → Int32 => WC G ad (ua (ua σ 3 z_) 31 (rfz (σ 31) (hbC e (2 ^ h))))) (by (rw [ifzk (show hbC e (2 ^ h) = 1 from cI_f c8) (by decide), ← hn]; exact upd_id rfl) : (upd (σ 3) 1 (ifz (hbC e (2 ^ h)) 0 (nI n))) = (σ 3))).trans (congrArg (fun z_ : Nat → Int32 => WC G ad (ua (ua σ 3 (σ 3)) 31 z_)) (by exact rfzk (cI_f c8) (by decide) : (rfz (σ 31) (hbC e (2 ^ h))) = (upd (σ 31) 1 ((σ 31) 1 + 1))))).trans (show WC G ad (ua (ua σ 3 (σ 3)) 31 (upd (σ 31) 1 ((σ 31) 1 + 1))) = WC G ad (ua σ 31 (upd (σ 31) 1 ((σ 31) 1 + 1))) from rfl)) dX11_judge_16
set_option maxHeartbeats 4000000 in
set_option maxRecDepth 100000 in
theorem k_X11_on (l : Launch) (G : GP) (ad : Nat → Nat) (σ : Nat → Nat → Int32) (h : Nat) (k : Nat) (hb3 : (σ 15 3) = nI h) (hb4 : (σ 15 4) = nI k) (hh4 : h ≤ 4) (hk6 : k ≤ 6) (hkd : KD (σ 17) k) : CT l G yX11_on cX11_on 1 (some .int) 5 [.ref (ad 0)] (WC G ad σ) (some (.int (rfA (onC (σ 0 9)) (nI k)))) (WC G ad (ua (ua (ua (ua (ua (ua (ua (ua (ua σ 7 (upd (upd (σ 7) 3 (ifz (onC (σ 0 9)) (nI h) (σ 7 3))) 4 (ifz (onC (σ 0 9)) (nI k) (σ 7 4)))) 8 (ifz (onC (σ 0 9)) (σ 16) (σ 8))) 9 (ifz (onC (σ 0 9)) (σ 17) (σ 9))) 10 (ifz (onC (σ 0 9)) (σ 18) (σ 10))) 21 (ifz (onC (σ 0 9)) (cpyF (wyM (bk h k (σ 16) (σ 17) (σ 18))) (σ 21) (2 ^ h)) (σ 21))) 22 (ifz (onC (σ 0 9)) (cpyF (wyF (bk h k (σ 16) (σ 17) (σ 18))) (σ 22) (2 ^ h)) (σ 22))) 23 (ifz (onC (σ 0 9)) (cpyF (wyW (bk h k (σ 16) (σ 17) (σ 18))) (σ 23) (2 ^ h)) (σ 23))) 24 (ifz (onC (σ 0 9)) (cpyF (wyO (bk h k (σ 16) (σ 17) (σ 18))) (σ 24) (2 ^ h)) (σ 24))) 31 (rfz (σ 31) (onC (σ 0 9))))) := by
  refine x_meth "BetsOnBets" rfl (by decide +kernel) (by rfl) (Nat.le_of_ble_eq_true rfl) ?_
  intro pP eE sS mM args below meth cC A ls hC hr hkL hK hZ hA hH hl
  have hx := hC.1
  have hb := hC.2.1
  have hl : lv_has ls 1 [(0, .ref (ad 0))] := hl
  have pwh := pw4 hh4
  have pwk := pw6 hk6
  have ph1 := Nat.one_le_two_pow (n := h)
  refine lv_aload_n hx hb dX11_on_0 rfl (lv_at hl 0 rfl) ?_
  refine gf_X11_55 (v := .int (σ 0 9)) hC hK hH 0 rfl rfl dX11_on_1 ?_
  refine lv_if_ne (tgt := 14) hx hb dX11_on_4 (by decide) (fun c4 => ?_) (fun c4 => ?_)
  · refine lv_aload_n hx hb dX11_on_14 rfl (lv_at hl 0 rfl) ?_
    refine gf_X11_28 (v := .ref (ad 7)) hC hK hH 0 rfl rfl dX11_on_15 ?_
    refine lv_aload_n hx hb dX11_on_18 rfl (lv_at hl 0 rfl) ?_
    refine gf_X11_35 (v := .ref (ad 15)) hC hK hH 0 rfl rfl dX11_on_19 ?_
    refine x_callV (ws' := WC G ad (ua (ua (ua (ua σ 7 (upd (upd (σ 7) 3 (σ 15 3)) 4 (σ 15 4))) 8 (σ 16)) 9 (σ 17)) 10 (σ 18))) (As := [.ref (ad 15)]) (rest := []) (st' := []) hC hK hZ hA hl.1 hH (k_X2_takeFrom l G (pk ad [7, 8, 9, 10, 15, 16, 17, 18]) (pk σ [7, 8, 9, 10, 15, 16, 17, 18])) lk_X11_153 [7, 8, 9, 10, 15, 16, 17, 18] rfl rfl rfl 7 1 rfl rfl rfl ⟨Nat.le_of_ble_eq_true rfl, Nat.le_of_ble_eq_true rfl⟩ ⟨Nat.le_refl _, Nat.le_refl _⟩ (Nat.le_of_ble_eq_true rfl) rfl dX11_on_22 (fun H locs hH => ?_)
    refine lv_aload_n hx hb dX11_on_25 rfl (lv_at hl 0 rfl) ?_
    refine gf_X11_41 (v := .ref (ad 19)) hC hK hH 0 rfl rfl dX11_on_26 ?_
    refine lv_aload_n hx hb dX11_on_29 rfl (lv_at hl 0 rfl) ?_
    refine gf_X11_28 (v := .ref (ad 7)) hC hK hH 0 rfl rfl dX11_on_30 ?_
    refine x_callV (ws' := WC G ad (ua (ua (ua (ua (ua (ua (ua (ua σ 7 (upd (upd (σ 7) 3 (σ 15 3)) 4 (σ 15 4))) 8 (σ 16)) 9 (σ 17)) 10 (σ 18)) 21 (cpyF (wyM (bk h k (σ 16) (σ 17) (σ 18))) (σ 21) (2 ^ h))) 22 (cpyF (wyF (bk h k (σ 16) (σ 17) (σ 18))) (σ 22) (2 ^ h))) 23 (cpyF (wyW (bk h k (σ 16) (σ 17) (σ 18))) (σ 23) (2 ^ h))) 24 (cpyF (wyO (bk h k (σ 16) (σ 17) (σ 18))) (σ 24) (2 ^ h)))) (As := [.ref (ad 7)]) (rest := []) (st' := []) hC hK hZ hA hl.1 hH (k_X10_find l G (pk ad [19, 20, 21, 22, 23, 24, 25, 26, 27, 28, 29, 30, 7, 8, 9, 10]) (pk (ua (ua (ua (ua σ 7 (upd (upd (σ 7) 3 (σ 15 3)) 4 (σ 15 4))) 8 (σ 16)) 9 (σ 17)) 10 (σ 18)) [19, 20, 21, 22, 23, 24, 25, 26, 27, 28, 29, 30, 7, 8, 9, 10]) h k hb3 hb4 hh4 hk6 hkd) lk_X11_194 [19, 20, 21, 22, 23, 24, 25, 26, 27, 28, 29, 30, 7, 8, 9, 10] rfl rfl rfl 19 9 rfl rfl rfl ⟨Nat.le_of_ble_eq_true rfl, Nat.le_of_ble_eq_true rfl⟩ ⟨Nat.le_refl _, Nat.le_refl _⟩ (Nat.le_of_ble_eq_true rfl) rfl dX11_on_33 (fun H locs hH => ?_)
    refine lv_aload_n hx hb dX11_on_36 rfl (lv_at hl 0 rfl) ?_
    refine gf_X11_28 (v := .ref (ad 7)) hC hK hH 0 rfl rfl dX11_on_37 ?_
    refine gf_X11_160 (v := .int (σ 15 4)) hC hK hH 7 rfl rfl dX11_on_40 ?_
    refine x_topE (y := (nI k)) hb4 ?_
    exact x_iret hC hr hkL hH (by (refine (rfA0 (show onC (σ 0 9) = 0 from if_neg c4)).trans ?_); rfl) ((((((((((congrArg (fun z_ : Nat → Int32 => WC G ad (ua (ua (ua (ua (ua (ua (ua (ua (ua σ 7 z_) 8 (ifz (onC (σ 0 9)) (σ 16) (σ 8))) 9 (ifz (onC (σ 0 9)) (σ 17) (σ 9))) 10 (ifz (onC (σ 0 9)) (σ 18) (σ 10))) 21 (ifz (onC (σ 0 9)) (cpyF (wyM (bk h k (σ 16) (σ 17) (σ 18))) (σ 21) (2 ^ h)) (σ 21))) 22 (ifz (onC (σ 0 9)) (cpyF (wyF (bk h k (σ 16) (σ 17) (σ 18))) (σ 22) (2 ^ h)) (σ 22))) 23 (ifz (onC (σ 0 9)) (cpyF (wyW (bk h k (σ 16) (σ 17) (σ 18))) (σ 23) (2 ^ h)) (σ 23))) 24 (ifz (onC (σ 0 9)) (cpyF (wyO (bk h k (σ 16) (σ 17) (σ 18))) (σ 24) (2 ^ h)) (σ 24))) 31 (rfz (σ 31) (onC (σ 0 9))))) (by first | (exact ifz0 (show onC (σ 0 9) = 0 from if_neg c4)) | (rw [ifz0 (show onC (σ 0 9) = 0 from if_neg c4), ifz0 (show onC (σ 0 9) = 0 from if_neg c4), hb3, hb4]) : (upd (upd (σ 7) 3 (ifz (onC (σ 0 9)) (nI h) (σ 7 3))) 4 (ifz (onC (σ 0 9)) (nI k) (σ 7 4))) = (upd (upd (σ 7) 3 (σ 15 3)) 4 (σ 15 4)))).trans (congrArg (fun z_ : Nat → Int32 => WC G ad (ua (ua (ua (ua (ua (ua (ua (ua (ua σ 7 (upd (upd (σ 7) 3 (σ 15 3)) 4 (σ 15 4))) 8 z_) 9 (ifz (onC (σ 0 9)) (σ 17) (σ 9))) 10 (ifz (onC (σ 0 9)) (σ 18) (σ 10))) 21 (ifz (onC (σ 0 9)) (cpyF (wyM (bk h k (σ 16) (σ 17) (σ 18))) (σ 21) (2 ^ h)) (σ 21))) 22 (ifz (onC (σ 0 9)) (cpyF (wyF (bk h k (σ 16) (σ 17) (σ 18))) (σ 22) (2 ^ h)) (σ 22))) 23 (ifz (onC (σ 0 9)) (cpyF (wyW (bk h k (σ 16) (σ 17) (σ 18))) (σ 23) (2 ^ h)) (σ 23))) 24 (ifz (onC (σ 0 9)) (cpyF (wyO (bk h k (σ 16) (σ 17) (σ 18))) (σ 24) (2 ^ h)) (σ 24))) 31 (rfz (σ 31) (onC (σ 0 9))))) (by first | (exact ifz0 (show onC (σ 0 9) = 0 from if_neg c4)) | (rw [ifz0 (show onC (σ 0 9) = 0 from if_neg c4), ifz0 (show onC (σ 0 9) = 0 from if_neg c4), hb3, hb4]) : (ifz (onC (σ 0 9)) (σ 16) (σ 8)) = (σ 16)))).trans (congrArg (fun z_ : Nat → Int32 => WC G ad (ua (ua (ua (ua (ua (ua (ua (ua (ua σ 7 (upd (upd (σ 7) 3 (σ 15 3)) 4 (σ 15 4))) 8 (σ 16)) 9 z_) 10 (ifz (onC (σ 0 9)) (σ 18) (σ 10))) 21 (ifz (onC (σ 0 9)) (cpyF (wyM (bk h k (σ 16) (σ 17) (σ 18))) (σ 21) (2 ^ h)) (σ 21))) 22 (ifz (onC (σ 0 9)) (cpyF (wyF (bk h k (σ 16) (σ 17) (σ 18))) (σ 22) (2 ^ h)) (σ 22))) 23 (ifz (onC (σ 0 9)) (cpyF (wyW (bk h k (σ 16) (σ 17) (σ 18))) (σ 23) (2 ^ h)) (σ 23))) 24 (ifz (onC (σ 0 9)) (cpyF (wyO (bk h k (σ 16) (σ 17) (σ 18))) (σ 24) (2 ^ h)) (σ 24))) 31 (rfz (σ 31) (onC (σ 0 9))))) (by first | (exact ifz0 (show onC (σ 0 9) = 0 from if_neg c4)) | (rw [ifz0 (show onC (σ 0 9) = 0 from if_neg c4), ifz0 (show onC (σ 0 9) = 0 from if_neg c4), hb3, hb4]) : (ifz (onC (σ 0 9)) (σ 17) (σ 9)) = (σ 17)))).trans (congrArg (fun z_ : Nat → Int32 => WC G ad (ua (ua (ua (ua (ua (ua (ua (ua (ua σ 7 (upd (upd (σ 7) 3 (σ 15 3)) 4 (σ 15 4))) 8 (σ 16)) 9 (σ 17)) 10 z_) 21 (ifz (onC (σ 0 9)) (cpyF (wyM (bk h k (σ 16) (σ 17) (σ 18))) (σ 21) (2 ^ h)) (σ 21))) 22 (ifz (onC (σ 0 9)) (cpyF (wyF (bk h k (σ 16) (σ 17) (σ 18))) (σ 22) (2 ^ h)) (σ 22))) 23 (ifz (onC (σ 0 9)) (cpyF (wyW (bk h k (σ 16) (σ 17) (σ 18))) (σ 23) (2 ^ h)) (σ 23))) 24 (ifz (onC (σ 0 9)) (cpyF (wyO (bk h k (σ 16) (σ 17) (σ 18))) (σ 24) (2 ^ h)) (σ 24))) 31 (rfz (σ 31) (onC (σ 0 9))))) (by first | (exact ifz0 (show onC (σ 0 9) = 0 from if_neg c4)) | (rw [ifz0 (show onC (σ 0 9) = 0 from if_neg c4), ifz0 (show onC (σ 0 9) = 0 from if_neg c4), hb3, hb4]) : (ifz (onC (σ 0 9)) (σ 18) (σ 10)) = (σ 18)))).trans (congrArg (fun z_ : Nat → Int32 => WC G ad (ua (ua (ua (ua (ua (ua (ua (ua (ua σ 7 (upd (upd (σ 7) 3 (σ 15 3)) 4 (σ 15 4))) 8 (σ 16)) 9 (σ 17)) 10 (σ 18)) 21 z_) 22 (ifz (onC (σ 0 9)) (cpyF (wyF (bk h k (σ 16) (σ 17) (σ 18))) (σ 22) (2 ^ h)) (σ 22))) 23 (ifz (onC (σ 0 9)) (cpyF (wyW (bk h k (σ 16) (σ 17) (σ 18))) (σ 23) (2 ^ h)) (σ 23))) 24 (ifz (onC (σ 0 9)) (cpyF (wyO (bk h k (σ 16) (σ 17) (σ 18))) (σ 24) (2 ^ h)) (σ 24))) 31 (rfz (σ 31) (onC (σ 0 9))))) (by first | (exact ifz0 (show onC (σ 0 9) = 0 from if_neg c4)) | (rw [ifz0 (show onC (σ 0 9) = 0 from if_neg c4), ifz0 (show onC (σ 0 9) = 0 from if_neg c4), hb3, hb4]) : (ifz (onC (σ 0 9)) (cpyF (wyM (bk h k (σ 16) (σ 17) (σ 18))) (σ 21) (2 ^ h)) (σ 21)) = (cpyF (wyM (bk h k (σ 16) (σ 17) (σ 18))) (σ 21) (2 ^ h))))).trans (congrArg (fun z_ : Nat → Int32 => WC G ad (ua (ua (ua (ua (ua (ua (ua (ua (ua σ 7 (upd (upd (σ 7) 3 (σ 15 3)) 4 (σ 15 4))) 8 (σ 16)) 9 (σ 17)) 10 (σ 18)) 21 (cpyF (wyM (bk h k (σ 16) (σ 17) (σ 18))) (σ 21) (2 ^ h))) 22 z_) 23 (ifz (onC (σ 0 9)) (cpyF (wyW (bk h k (σ 16) (σ 17) (σ 18))) (σ 23) (2 ^ h)) (σ 23))) 24 (ifz (onC (σ 0 9)) (cpyF (wyO (bk h k (σ 16) (σ 17) (σ 18))) (σ 24) (2 ^ h)) (σ 24))) 31 (rfz (σ 31) (onC (σ 0 9))))) (by first | (exact ifz0 (show onC (σ 0 9) = 0 from if_neg c4)) | (rw [ifz0 (show onC (σ 0 9) = 0 from if_neg c4), ifz0 (show onC (σ 0 9) = 0 from if_neg c4), hb3, hb4]) : (ifz (onC (σ 0 9)) (cpyF (wyF (bk h k (σ 16) (σ 17) (σ 18))) (σ 22) (2 ^ h)) (σ 22)) = (cpyF (wyF (bk h k (σ 16) (σ 17) (σ 18))) (σ 22) (2 ^ h))))).trans (congrArg (fun z_ : Nat → Int32 => WC G ad (ua (ua (ua (ua (ua (ua (ua (ua (ua σ 7 (upd (upd (σ 7) 3 (σ 15 3)) 4 (σ 15 4))) 8 (σ 16)) 9 (σ 17)) 10 (σ 18)) 21 (cpyF (wyM (bk h k (σ 16) (σ 17) (σ 18))) (σ 21) (2 ^ h))) 22 (cpyF (wyF (bk h k (σ 16) (σ 17) (σ 18))) (σ 22) (2 ^ h))) 23 z_) 24 (ifz (onC (σ 0 9)) (cpyF (wyO (bk h k (σ 16) (σ 17) (σ 18))) (σ 24) (2 ^ h)) (σ 24))) 31 (rfz (σ 31) (onC (σ 0 9))))) (by first | (exact ifz0 (show onC (σ 0 9) = 0 from if_neg c4)) | (rw [ifz0 (show onC (σ 0 9) = 0 from if_neg c4), ifz0 (show onC (σ 0 9) = 0 from if_neg c4), hb3, hb4]) : (ifz (onC (σ 0 9)) (cpyF (wyW (bk h k (σ 16) (σ 17) (σ 18))) (σ 23) (2 ^ h)) (σ 23)) = (cpyF (wyW (bk h k (σ 16) (σ 17) (σ 18))) (σ 23) (2 ^ h))))).trans (congrArg (fun z_ : Nat → Int32 => WC G ad (ua (ua (ua (ua (ua (ua (ua (ua (ua σ 7 (upd (upd (σ 7) 3 (σ 15 3)) 4 (σ 15 4))) 8 (σ 16)) 9 (σ 17)) 10 (σ 18)) 21 (cpyF (wyM (bk h k (σ 16) (σ 17) (σ 18))) (σ 21) (2 ^ h))) 22 (cpyF (wyF (bk h k (σ 16) (σ 17) (σ 18))) (σ 22) (2 ^ h))) 23 (cpyF (wyW (bk h k (σ 16) (σ 17) (σ 18))) (σ 23) (2 ^ h))) 24 z_) 31 (rfz (σ 31) (onC (σ 0 9))))) (by first | (exact ifz0 (show onC (σ 0 9) = 0 from if_neg c4)) | (rw [ifz0 (show onC (σ 0 9) = 0 from if_neg c4), ifz0 (show onC (σ 0 9) = 0 from if_neg c4), hb3, hb4]) : (ifz (onC (σ 0 9)) (cpyF (wyO (bk h k (σ 16) (σ 17) (σ 18))) (σ 24) (2 ^ h)) (σ 24)) = (cpyF (wyO (bk h k (σ 16) (σ 17) (σ 18))) (σ 24) (2 ^ h))))).trans (congrArg (fun z_ : Nat → Int32 => WC G ad (ua (ua (ua (ua (ua (ua (ua (ua (ua σ 7 (upd (upd (σ 7) 3 (σ 15 3)) 4 (σ 15 4))) 8 (σ 16)) 9 (σ 17)) 10 (σ 18)) 21 (cpyF (wyM (bk h k (σ 16) (σ 17) (σ 18))) (σ 21) (2 ^ h))) 22 (cpyF (wyF (bk h k (σ 16) (σ 17) (σ 18))) (σ 22) (2 ^ h))) 23 (cpyF (wyW (bk h k (σ 16) (σ 17) (σ 18))) (σ 23) (2 ^ h))) 24 (cpyF (wyO (bk h k (σ 16) (σ 17) (σ 18))) (σ 24) (2 ^ h))) 31 z_)) (by exact rfz0 (show onC (σ 0 9) = 0 from if_neg c4) : (rfz (σ 31) (onC (σ 0 9))) = (σ 31)))).trans (show WC G ad (ua (ua (ua (ua (ua (ua (ua (ua (ua σ 7 (upd (upd (σ 7) 3 (σ 15 3)) 4 (σ 15 4))) 8 (σ 16)) 9 (σ 17)) 10 (σ 18)) 21 (cpyF (wyM (bk h k (σ 16) (σ 17) (σ 18))) (σ 21) (2 ^ h))) 22 (cpyF (wyF (bk h k (σ 16) (σ 17) (σ 18))) (σ 22) (2 ^ h))) 23 (cpyF (wyW (bk h k (σ 16) (σ 17) (σ 18))) (σ 23) (2 ^ h))) 24 (cpyF (wyO (bk h k (σ 16) (σ 17) (σ 18))) (σ 24) (2 ^ h))) 31 (σ 31)) = WC G ad (ua (ua (ua (ua (ua (ua (ua (ua σ 7 (upd (upd (σ 7) 3 (σ 15 3)) 4 (σ 15 4))) 8 (σ 16)) 9 (σ 17)) 10 (σ 18)) 21 (cpyF (wyM (bk h k (σ 16) (σ 17) (σ 18))) (σ 21) (2 ^ h))) 22 (cpyF (wyF (bk h k (σ 16) (σ 17) (σ 18))) (σ 22) (2 ^ h))) 23 (cpyF (wyW (bk h k (σ 16) (σ 17) (σ 18))) (σ 23) (2 ^ h))) 24 (cpyF (wyO (bk h k (σ 16) (σ 17) (σ 18))) (σ 24) (2 ^ h))) from rfl)) dX11_on_43
  · refine lv_aload_n hx hb dX11_on_7 rfl (lv_at hl 0 rfl) ?_
    refine lv_bipush (v := (-3)) hx hb dX11_on_8 (by decide) ?_
    refine x_callVA (ws' := WC G ad (ua σ 31 (upd (σ 31) 3 ((σ 31) 3 + 1)))) (As := [.int (-3)]) (rest := []) (st' := [.int (-3)]) hC hK hZ hA hl.1 hH (k_X11_refused l G ad σ (-3) 3 rfl (by decide)) lk_X11_80 rfl 0 10 rfl rfl rfl ⟨Nat.le_of_ble_eq_true rfl, Nat.le_of_ble_eq_true rfl⟩ ⟨Nat.le_refl _, Nat.le_refl _⟩ (Nat.le_of_ble_eq_true rfl) rfl dX11_on_10 (fun H locs hH => ?_)
    exact x_iret hC hr hkL hH (by exact rfAk (show onC (σ 0 9) = 3 from if_pos c4) (by decide)) ((((((((((congrArg (fun z_ : Nat → Int32 => WC G ad (ua (ua (ua (ua (ua (ua (ua (ua (ua σ 7 z_) 8 (ifz (onC (σ 0 9)) (σ 16) (σ 8))) 9 (ifz (onC (σ 0 9)) (σ 17) (σ 9))) 10 (ifz (onC (σ 0 9)) (σ 18) (σ 10))) 21 (ifz (onC (σ 0 9)) (cpyF (wyM (bk h k (σ 16) (σ 17) (σ 18))) (σ 21) (2 ^ h)) (σ 21))) 22 (ifz (onC (σ 0 9)) (cpyF (wyF (bk h k (σ 16) (σ 17) (σ 18))) (σ 22) (2 ^ h)) (σ 22))) 23 (ifz (onC (σ 0 9)) (cpyF (wyW (bk h k (σ 16) (σ 17) (σ 18))) (σ 23) (2 ^ h)) (σ 23))) 24 (ifz (onC (σ 0 9)) (cpyF (wyO (bk h k (σ 16) (σ 17) (σ 18))) (σ 24) (2 ^ h)) (σ 24))) 31 (rfz (σ 31) (onC (σ 0 9))))) (by first | (exact ifzk (show onC (σ 0 9) = 3 from if_pos c4) (by decide)) | (rw [ifzk (show onC (σ 0 9) = 3 from if_pos c4) (by decide), ifzk (show onC (σ 0 9) = 3 from if_pos c4) (by decide)]; exact upd2_id rfl rfl) : (upd (upd (σ 7) 3 (ifz (onC (σ 0 9)) (nI h) (σ 7 3))) 4 (ifz (onC (σ 0 9)) (nI k) (σ 7 4))) = (σ 7))).trans (congrArg (fun z_ : Nat → Int32 => WC G ad (ua (ua (ua (ua (ua (ua (ua (ua (ua σ 7 (σ 7)) 8 z_) 9 (ifz (onC (σ 0 9)) (σ 17) (σ 9))) 10 (ifz (onC (σ 0 9)) (σ 18) (σ 10))) 21 (ifz (onC (σ 0 9)) (cpyF (wyM (bk h k (σ 16) (σ 17) (σ 18))) (σ 21) (2 ^ h)) (σ 21))) 22 (ifz (onC (σ 0 9)) (cpyF (wyF (bk h k (σ 16) (σ 17) (σ 18))) (σ 22) (2 ^ h)) (σ 22))) 23 (ifz (onC (σ 0 9)) (cpyF (wyW (bk h k (σ 16) (σ 17) (σ 18))) (σ 23) (2 ^ h)) (σ 23))) 24 (ifz (onC (σ 0 9)) (cpyF (wyO (bk h k (σ 16) (σ 17) (σ 18))) (σ 24) (2 ^ h)) (σ 24))) 31 (rfz (σ 31) (onC (σ 0 9))))) (by first | (exact ifzk (show onC (σ 0 9) = 3 from if_pos c4) (by decide)) | (rw [ifzk (show onC (σ 0 9) = 3 from if_pos c4) (by decide), ifzk (show onC (σ 0 9) = 3 from if_pos c4) (by decide)]; exact upd2_id rfl rfl) : (ifz (onC (σ 0 9)) (σ 16) (σ 8)) = (σ 8)))).trans (congrArg (fun z_ : Nat → Int32 => WC G ad (ua (ua (ua (ua (ua (ua (ua (ua (ua σ 7 (σ 7)) 8 (σ 8)) 9 z_) 10 (ifz (onC (σ 0 9)) (σ 18) (σ 10))) 21 (ifz (onC (σ 0 9)) (cpyF (wyM (bk h k (σ 16) (σ 17) (σ 18))) (σ 21) (2 ^ h)) (σ 21))) 22 (ifz (onC (σ 0 9)) (cpyF (wyF (bk h k (σ 16) (σ 17) (σ 18))) (σ 22) (2 ^ h)) (σ 22))) 23 (ifz (onC (σ 0 9)) (cpyF (wyW (bk h k (σ 16) (σ 17) (σ 18))) (σ 23) (2 ^ h)) (σ 23))) 24 (ifz (onC (σ 0 9)) (cpyF (wyO (bk h k (σ 16) (σ 17) (σ 18))) (σ 24) (2 ^ h)) (σ 24))) 31 (rfz (σ 31) (onC (σ 0 9))))) (by first | (exact ifzk (show onC (σ 0 9) = 3 from if_pos c4) (by decide)) | (rw [ifzk (show onC (σ 0 9) = 3 from if_pos c4) (by decide), ifzk (show onC (σ 0 9) = 3 from if_pos c4) (by decide)]; exact upd2_id rfl rfl) : (ifz (onC (σ 0 9)) (σ 17) (σ 9)) = (σ 9)))).trans (congrArg (fun z_ : Nat → Int32 => WC G ad (ua (ua (ua (ua (ua (ua (ua (ua (ua σ 7 (σ 7)) 8 (σ 8)) 9 (σ 9)) 10 z_) 21 (ifz (onC (σ 0 9)) (cpyF (wyM (bk h k (σ 16) (σ 17) (σ 18))) (σ 21) (2 ^ h)) (σ 21))) 22 (ifz (onC (σ 0 9)) (cpyF (wyF (bk h k (σ 16) (σ 17) (σ 18))) (σ 22) (2 ^ h)) (σ 22))) 23 (ifz (onC (σ 0 9)) (cpyF (wyW (bk h k (σ 16) (σ 17) (σ 18))) (σ 23) (2 ^ h)) (σ 23))) 24 (ifz (onC (σ 0 9)) (cpyF (wyO (bk h k (σ 16) (σ 17) (σ 18))) (σ 24) (2 ^ h)) (σ 24))) 31 (rfz (σ 31) (onC (σ 0 9))))) (by first | (exact ifzk (show onC (σ 0 9) = 3 from if_pos c4) (by decide)) | (rw [ifzk (show onC (σ 0 9) = 3 from if_pos c4) (by decide), ifzk (show onC (σ 0 9) = 3 from if_pos c4) (by decide)]; exact upd2_id rfl rfl) : (ifz (onC (σ 0 9)) (σ 18) (σ 10)) = (σ 10)))).trans (congrArg (fun z_ : Nat → Int32 => WC G ad (ua (ua (ua (ua (ua (ua (ua (ua (ua σ 7 (σ 7)) 8 (σ 8)) 9 (σ 9)) 10 (σ 10)) 21 z_) 22 (ifz (onC (σ 0 9)) (cpyF (wyF (bk h k (σ 16) (σ 17) (σ 18))) (σ 22) (2 ^ h)) (σ 22))) 23 (ifz (onC (σ 0 9)) (cpyF (wyW (bk h k (σ 16) (σ 17) (σ 18))) (σ 23) (2 ^ h)) (σ 23))) 24 (ifz (onC (σ 0 9)) (cpyF (wyO (bk h k (σ 16) (σ 17) (σ 18))) (σ 24) (2 ^ h)) (σ 24))) 31 (rfz (σ 31) (onC (σ 0 9))))) (by first | (exact ifzk (show onC (σ 0 9) = 3 from if_pos c4) (by decide)) | (rw [ifzk (show onC (σ 0 9) = 3 from if_pos c4) (by decide), ifzk (show onC (σ 0 9) = 3 from if_pos c4) (by decide)]; exact upd2_id rfl rfl) : (ifz (onC (σ 0 9)) (cpyF (wyM (bk h k (σ 16) (σ 17) (σ 18))) (σ 21) (2 ^ h)) (σ 21)) = (σ 21)))).trans (congrArg (fun z_ : Nat → Int32 => WC G ad (ua (ua (ua (ua (ua (ua (ua (ua (ua σ 7 (σ 7)) 8 (σ 8)) 9 (σ 9)) 10 (σ 10)) 21 (σ 21)) 22 z_) 23 (ifz (onC (σ 0 9)) (cpyF (wyW (bk h k (σ 16) (σ 17) (σ 18))) (σ 23) (2 ^ h)) (σ 23))) 24 (ifz (onC (σ 0 9)) (cpyF (wyO (bk h k (σ 16) (σ 17) (σ 18))) (σ 24) (2 ^ h)) (σ 24))) 31 (rfz (σ 31) (onC (σ 0 9))))) (by first | (exact ifzk (show onC (σ 0 9) = 3 from if_pos c4) (by decide)) | (rw [ifzk (show onC (σ 0 9) = 3 from if_pos c4) (by decide), ifzk (show onC (σ 0 9) = 3 from if_pos c4) (by decide)]; exact upd2_id rfl rfl) : (ifz (onC (σ 0 9)) (cpyF (wyF (bk h k (σ 16) (σ 17) (σ 18))) (σ 22) (2 ^ h)) (σ 22)) = (σ 22)))).trans (congrArg (fun z_ : Nat → Int32 => WC G ad (ua (ua (ua (ua (ua (ua (ua (ua (ua σ 7 (σ 7)) 8 (σ 8)) 9 (σ 9)) 10 (σ 10)) 21 (σ 21)) 22 (σ 22)) 23 z_) 24 (ifz (onC (σ 0 9)) (cpyF (wyO (bk h k (σ 16) (σ 17) (σ 18))) (σ 24) (2 ^ h)) (σ 24))) 31 (rfz (σ 31) (onC (σ 0 9))))) (by first | (exact ifzk (show onC (σ 0 9) = 3 from if_pos c4) (by decide)) | (rw [ifzk (show onC (σ 0 9) = 3 from if_pos c4) (by decide), ifzk (show onC (σ 0 9) = 3 from if_pos c4) (by decide)]; exact upd2_id rfl rfl) : (ifz (onC (σ 0 9)) (cpyF (wyW (bk h k (σ 16) (σ 17) (σ 18))) (σ 23) (2 ^ h)) (σ 23)) = (σ 23)))).trans (congrArg (fun z_ : Nat → Int32 => WC G ad (ua (ua (ua (ua (ua (ua (ua (ua (ua σ 7 (σ 7)) 8 (σ 8)) 9 (σ 9)) 10 (σ 10)) 21 (σ 21)) 22 (σ 22)) 23 (σ 23)) 24 z_) 31 (rfz (σ 31) (onC (σ 0 9))))) (by first | (exact ifzk (show onC (σ 0 9) = 3 from if_pos c4) (by decide)) | (rw [ifzk (show onC (σ 0 9) = 3 from if_pos c4) (by decide), ifzk (show onC (σ 0 9) = 3 from if_pos c4) (by decide)]; exact upd2_id rfl rfl) : (ifz (onC (σ 0 9)) (cpyF (wyO (bk h k (σ 16) (σ 17) (σ 18))) (σ 24) (2 ^ h)) (σ 24)) = (σ 24)))).trans (congrArg (fun z_ : Nat → Int32 => WC G ad (ua (ua (ua (ua (ua (ua (ua (ua (ua σ 7 (σ 7)) 8 (σ 8)) 9 (σ 9)) 10 (σ 10)) 21 (σ 21)) 22 (σ 22)) 23 (σ 23)) 24 (σ 24)) 31 z_)) (by exact rfzk (show onC (σ 0 9) = 3 from if_pos c4) (by decide) : (rfz (σ 31) (onC (σ 0 9))) = (upd (σ 31) 3 ((σ 31) 3 + 1))))).trans (show WC G ad (ua (ua (ua (ua (ua (ua (ua (ua (ua σ 7 (σ 7)) 8 (σ 8)) 9 (σ 9)) 10 (σ 10)) 21 (σ 21)) 22 (σ 22)) 23 (σ 23)) 24 (σ 24)) 31 (upd (σ 31) 3 ((σ 31) 3 + 1))) = WC G ad (ua σ 31 (upd (σ 31) 3 ((σ 31) 3 + 1))) from rfl)) dX11_on_13
set_option maxHeartbeats 4000000 in
set_option maxRecDepth 100000 in
theorem k_X11_count (l : Launch) (G : GP) (ad : Nat → Nat) (σ : Nat → Nat → Int32) (w : Int32) (h : Nat) (k : Nat) (hb3 : (σ 7 3) = nI h) (hb4 : (σ 7 4) = nI k) (hh4 : h ≤ 4) (hk6 : k ≤ 6) : CT l G yX11_count cX11_count 2 (some .int) 3 [.ref (ad 0), .int w] (WC G ad σ) (some (.int (cntA (bk h k (σ 8) (σ 9) (σ 10)) (σ 31) (σ 3 1) (σ 1 1) w))) (WC G ad σ) := by
  refine x_meth "BetsOnBets" rfl (by decide +kernel) (by rfl) (Nat.le_of_ble_eq_true rfl) ?_
  intro pP eE sS mM args below meth cC A ls hC hr hkL hK hZ hA hH hl
  have hx := hC.1
  have hb := hC.2.1
  have hl : lv_has ls 2 [(0, .ref (ad 0)), (1, .int w)] := hl
  have pwh := pw4 hh4
  have pwk := pw6 hk6
  have ph1 := Nat.one_le_two_pow (n := h)
  refine lv_iload_n hx hb dX11_count_0 rfl (lv_at hl 1 rfl) ?_
  rcases sw6 w with h0 | h1 | h2 | h3 | h4 | h5 | hd
  · refine x_topE (y := 0) h0 ?_
    refine lv_tableIn (tgt := 40) hx hb dX11_count_1 (by decide) (by decide) rfl (by decide) ?_
    refine lv_aload_n hx hb dX11_count_40 rfl (lv_at hl 0 rfl) ?_
    refine gf_X11_28 (v := .ref (ad 7)) hC hK hH 0 rfl rfl dX11_count_41 ?_
    refine gf_X11_76 (v := .int (σ 7 3)) hC hK hH 7 rfl rfl dX11_count_44 ?_
    refine x_topE (y := (nI h)) hb3 ?_
    exact x_iret hC hr hkL hH (by rw [h0]; exact (if_neg (by decide)).trans (if_pos rfl)) rfl dX11_count_47
  · refine x_topE (y := 1) h1 ?_
    refine lv_tableIn (tgt := 48) hx hb dX11_count_1 (by decide) (by decide) rfl (by decide) ?_
    refine lv_aload_n hx hb dX11_count_48 rfl (lv_at hl 0 rfl) ?_
    refine gf_X11_28 (v := .ref (ad 7)) hC hK hH 0 rfl rfl dX11_count_49 ?_
    refine gf_X11_160 (v := .int (σ 7 4)) hC hK hH 7 rfl rfl dX11_count_52 ?_
    refine x_topE (y := (nI k)) hb4 ?_
    exact x_iret hC hr hkL hH (by rw [h1]; exact (if_neg (by decide)).trans ((if_neg (by decide)).trans (if_pos rfl))) rfl dX11_count_55
  · refine x_topE (y := 2) h2 ?_
    refine lv_tableIn (tgt := 56) hx hb dX11_count_1 (by decide) (by decide) rfl (by decide) ?_
    refine lv_aload_n hx hb dX11_count_56 rfl (lv_at hl 0 rfl) ?_
    refine gf_X11_28 (v := .ref (ad 7)) hC hK hH 0 rfl rfl dX11_count_57 ?_
    refine x_callV (ws' := WC G ad σ) (As := []) (rest := []) (st' := [.int (nI (2 ^ h))]) hC hK hZ hA hl.1 hH (k_X2_ends l G (pk ad [7, 8, 9, 10]) (pk σ [7, 8, 9, 10]) h k hb3 hb4 hh4 hk6) lk_X11_139 [7, 8, 9, 10] rfl rfl rfl 7 1 rfl rfl rfl ⟨Nat.le_of_ble_eq_true rfl, Nat.le_of_ble_eq_true rfl⟩ ⟨Nat.le_refl _, Nat.le_refl _⟩ (Nat.le_of_ble_eq_true rfl) rfl dX11_count_60 (fun H locs hH => ?_)
    exact x_iret hC hr hkL hH (by rw [h2]; exact (if_neg (by decide)).trans ((if_neg (by decide)).trans ((if_neg (by decide)).trans (if_pos rfl)))) rfl dX11_count_63
  · refine x_topE (y := 3) h3 ?_
    refine lv_tableIn (tgt := 64) hx hb dX11_count_1 (by decide) (by decide) rfl (by decide) ?_
    refine lv_aload_n hx hb dX11_count_64 rfl (lv_at hl 0 rfl) ?_
    refine gf_X11_28 (v := .ref (ad 7)) hC hK hH 0 rfl rfl dX11_count_65 ?_
    refine x_callV (ws' := WC G ad σ) (As := []) (rest := []) (st' := [.int (stS (bk h k (σ 8) (σ 9) (σ 10)) k)]) hC hK hZ hA hl.1 hH (k_X2_allStakes l G (pk ad [7, 8, 9, 10]) (pk σ [7, 8, 9, 10]) h k hb3 hb4 hh4 hk6) lk_X11_197 [7, 8, 9, 10] rfl rfl rfl 7 1 rfl rfl rfl ⟨Nat.le_of_ble_eq_true rfl, Nat.le_of_ble_eq_true rfl⟩ ⟨Nat.le_refl _, Nat.le_refl _⟩ (Nat.le_of_ble_eq_true rfl) rfl dX11_count_68 (fun H locs hH => ?_)
    exact x_iret hC hr hkL hH (by rw [h3]; exact (if_neg (by decide)).trans ((if_neg (by decide)).trans ((if_neg (by decide)).trans ((if_neg (by decide)).trans (if_pos rfl))))) rfl dX11_count_71
  · refine x_topE (y := 4) h4 ?_
    refine lv_tableIn (tgt := 72) hx hb dX11_count_1 (by decide) (by decide) rfl (by decide) ?_
    refine lv_aload_n hx hb dX11_count_72 rfl (lv_at hl 0 rfl) ?_
    refine gf_X11_21 (v := .ref (ad 3)) hC hK hH 0 rfl rfl dX11_count_73 ?_
    refine gf_X11_200 (v := .int (σ 3 1)) hC hK hH 3 rfl rfl dX11_count_76 ?_
    exact x_iret hC hr hkL hH (by rw [h4]; exact (if_neg (by decide)).trans ((if_neg (by decide)).trans ((if_neg (by decide)).trans ((if_neg (by decide)).trans ((if_neg (by decide)).trans (if_pos rfl)))))) rfl dX11_count_79
  · refine x_topE (y := 5) h5 ?_
    refine lv_tableIn (tgt := 80) hx hb dX11_count_1 (by decide) (by decide) rfl (by decide) ?_
    refine lv_aload_n hx hb dX11_count_80 rfl (lv_at hl 0 rfl) ?_
    refine gf_X11_10 (v := .ref (ad 5)) hC hK hH 0 rfl rfl dX11_count_81 ?_
    refine gf_X11_59 (v := .ref (ad 1)) hC hK hH 5 rfl rfl dX11_count_84 ?_
    refine gf_X11_200 (v := .int (σ 1 1)) hC hK hH 1 rfl rfl dX11_count_87 ?_
    exact x_iret hC hr hkL hH (by rw [h5]; exact (if_neg (by decide)).trans ((if_neg (by decide)).trans ((if_neg (by decide)).trans ((if_neg (by decide)).trans ((if_neg (by decide)).trans ((if_neg (by decide)).trans (if_pos rfl))))))) rfl dX11_count_90
  · refine lv_tableOut (tgt := 91) hx hb dX11_count_1 hd (by decide) ?_
    refine lv_iload_n hx hb dX11_count_91 rfl (lv_at hl 1 rfl) ?_
    refine lv_bipush (v := 11) hx hb dX11_count_92 (by decide) ?_
    refine lv_icmp_lt (tgt := 117) hx hb dX11_count_94 (by decide) (fun c94 => ?_) (fun c94 => ?_)
    · refine lv_bipush (v := (-9)) hx hb dX11_count_117 (by decide) ?_
      exact x_iret hC hr hkL hH (by first | (rw [cntA_in (cgt11 c94) (clt16 c100), ej_, nI_clamp (by omega)]; done) | exact cntA_d (fun z => absurd (lt11 z.1) c94) hd | exact cntA_d (fun z => absurd (lt17 z.2) c100) hd | exact (cntA_d (fun z => absurd c94 (lt11 z.1)) hd) | exact (cntA_d (fun z => absurd c100 (lt17 z.2)) hd)) rfl dX11_count_119
    · refine lv_iload_n hx hb dX11_count_97 rfl (lv_at hl 1 rfl) ?_
      refine lv_bipush (v := 16) hx hb dX11_count_98 (by decide) ?_
      refine lv_icmp_gt (tgt := 117) hx hb dX11_count_100 (by decide) (fun c100 => ?_) (fun c100 => ?_)
      · refine lv_bipush (v := (-9)) hx hb dX11_count_117 (by decide) ?_
        exact x_iret hC hr hkL hH (by first | (rw [cntA_in (cgt11 c94) (clt16 c100), ej_, nI_clamp (by omega)]; done) | exact cntA_d (fun z => absurd (lt11 z.1) c94) hd | exact cntA_d (fun z => absurd (lt17 z.2) c100) hd | exact (cntA_d (fun z => absurd c94 (lt11 z.1)) hd) | exact (cntA_d (fun z => absurd c100 (lt17 z.2)) hd)) rfl dX11_count_119
      · obtain ⟨j_, hj_, ej_⟩ := cnt_in (cgt11 c94) (clt16 c100)
        refine lv_aload_n hx hb dX11_count_103 rfl (lv_at hl 0 rfl) ?_
        refine gf_X11_45 (v := .ref (ad 31)) hC hK hH 0 rfl rfl dX11_count_104 ?_
        refine lv_iload_n hx hb dX11_count_107 rfl (lv_at hl 1 rfl) ?_
        refine lv_bipush (v := 10) hx hb dX11_count_108 (by decide) ?_
        refine lv_isub hx hb dX11_count_110 ?_
        refine x_callS (ws' := WC G ad σ) (As := [.ref (ad 31), .int (w - 10)]) (rest := []) (st' := [.int (atF (σ 31) 7 (w - 10))]) hC hK hZ hA hl.1 hH (k_X11_at l G 7 (pk ad [31]) (pk σ [31]) (w - 10) (by decide)) lk_X11_173 [31] rfl rfl rfl rfl ⟨Nat.le_of_ble_eq_true rfl, Nat.le_of_ble_eq_true rfl⟩ ⟨Nat.le_refl _, Nat.le_refl _⟩ (Nat.le_of_ble_eq_true rfl) rfl dX11_count_111 (fun H locs hH => ?_)
        refine x_topE (y := ((σ 31) j_)) (atF_in ej_ hj_ (by decide)) ?_
        refine lv_goto (tgt := 119) hx hb dX11_count_114 (by decide) ?_
        exact x_iret hC hr hkL hH (by first | (rw [cntA_in (cgt11 c94) (clt16 c100), ej_, nI_clamp (by omega)]; done) | exact cntA_d (fun z => absurd (lt11 z.1) c94) hd | exact cntA_d (fun z => absurd (lt17 z.2) c100) hd | exact (cntA_d (fun z => absurd c94 (lt11 z.1)) hd) | exact (cntA_d (fun z => absurd c100 (lt17 z.2)) hd)) rfl dX11_count_119
