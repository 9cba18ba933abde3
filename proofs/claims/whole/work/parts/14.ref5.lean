/-! the reference: stakes that spare, safe odds -/
theorem lp_in1 {i n : Nat} {b : Int32} (hb : b = nI n) (hn : n < 2 ^ 31) (hi : i < 2 ^ 31) (h : ¬ b < nI i) : i < n + 1 := by
  subst hb
  have := mt (nI_ltI hn hi).mpr h
  omega
theorem lp_out1 {i n : Nat} {b : Int32} (hb : b = nI n) (hn : n < 2 ^ 31) (hi : i < 2 ^ 31) (h : b < nI i) : n + 1 ≤ i := by
  subst hb
  exact (nI_ltI hn hi).mp h
/-- one number of the bets is another -/
def bSet (β : Bk) (i : Nat) (v : Int32) : Bk := (β.1, β.2.1, upd (bN β) i v, bF β)
theorem RB.set {f : Nat → Int32} {β : Bk} (h : RB f β) {i : Nat} (hi : i < 42) (v : Int32) : RB (upd f (10 + i) v) (bSet β i v) := by
  obtain ⟨h1, h2, h3, h4, h5, h6, h7⟩ := h
  refine ⟨?_, ?_, h3, h4, fun j hj => ?_, fun j hj => ?_, fun j hj => ?_⟩
  · rw [pk_un (by omega)]; exact h1
  · rw [pk_un (by omega)]; exact h2
  · rw [pk_un (by omega)]; exact h5 j hj
  · rw [pk_un (by omega)]; exact h6 j hj
  · show upd f (10 + i) v (10 + j) = upd (bN β) i v j
    by_cases e : j = i
    · subst e; rw [pk_us, pk_us]
    · rw [pk_un (by omega), pk_un e]; exact h7 j hj
def spT (f : Nat → Int32) (a : Nat) (g : Nat → Int32) (t : Nat) : Nat → Int32 := if t = 0 then f else upd f a (g (t - 1))
theorem spT_0 (f : Nat → Int32) (a : Nat) (g : Nat → Int32) : spT f a g 0 = f := rfl
theorem spT_u (f : Nat → Int32) (a : Nat) (g : Nat → Int32) (t : Nat) (v : Int32) : upd (spT f a g t) a v = upd f a v := by
  unfold spT
  split
  · rfl
  · exact upd_at
theorem spT_s (f : Nat → Int32) (a : Nat) (g : Nat → Int32) (t : Nat) : upd f a (g t) = spT f a g (t + 1) := by
  unfold spT
  rw [if_neg (by omega), Nat.add_sub_cancel]
theorem spT_b (f : Nat → Int32) (a : Nat) (g : Nat → Int32) (t : Nat) : upd (spT f a g t) a (f a) = f := by
  rw [spT_u]; exact upd_id rfl
noncomputable def spI (β : Bk) (p : Int32) (b : Nat) (m : Int32 × Int32) : Nat → Int32 × Int32
  | 0 => m
  | t + 1 => if (spI β p b m t).1 < worV (bSet β (7 * b + 3) (nI t)) p then (worV (bSet β (7 * b + 3) (nI t)) p, 100 * nI b + nI t) else spI β p b m t
theorem spI_t {β : Bk} {p : Int32} {b : Nat} {m : Int32 × Int32} {t : Nat} (h : (spI β p b m t).1 < worV (bSet β (7 * b + 3) (nI t)) p) : spI β p b m (t + 1) = (worV (bSet β (7 * b + 3) (nI t)) p, 100 * nI b + nI t) := if_pos h
theorem spI_f {β : Bk} {p : Int32} {b : Nat} {m : Int32 × Int32} {t : Nat} (h : ¬ (spI β p b m t).1 < worV (bSet β (7 * b + 3) (nI t)) p) : spI β p b m (t + 1) = spI β p b m t := if_neg h
noncomputable def spO (β : Bk) (p : Int32) : Nat → Int32 × Int32
  | 0 => (worV β p, -9)
  | b + 1 => if nm β b 5 = p then spI β p b (spO β p b) 100 else spO β p b
theorem spO_t {β : Bk} {p : Int32} {b : Nat} (h : nm β b 5 = p) : spO β p (b + 1) = spI β p b (spO β p b) 100 := if_pos h
theorem spO_f {β : Bk} {p : Int32} {b : Nat} (h : ¬ nm β b 5 = p) : spO β p (b + 1) = spO β p b := if_neg h
noncomputable def sparA (β : Bk) (p : Int32) : Int32 := (spO β p (bK β)).2
noncomputable def sfM (β : Bk) (b : Nat) (o : Int32) : Int32 := meanA (bSet β (7 * b + 4) o) (nm (bSet β (7 * b + 4) o) b 6)
def oD (t : Nat) : Int32 := 9 - nI t
noncomputable def sfS (β : Bk) (b : Nat) : Nat → Int32
  | 0 => -9
  | m + 1 => if 0 ≤ sfM β b (oD (9 - m)) then oD (9 - m) else sfS β b m
theorem oD_1 : ∀ t, t < 11 → 9 - nI t + (-1) = oD (t + 1) := by decide
theorem oD_n : ∀ t, t < 11 → (oD t < 0 ↔ 10 ≤ t) := by decide
theorem oD_p : ∀ t, t < 10 → 0 ≤ oD t := by decide
theorem sfS_t {β : Bk} {b t : Nat} (ht : t < 10) (h : 0 ≤ sfM β b (oD t)) : sfS β b (10 - t) = oD t := by
  obtain ⟨m, hm⟩ : ∃ m, 10 - t = m + 1 := ⟨9 - t, by omega⟩
  rw [hm, sfS, show 9 - m = t by omega, if_pos h]
theorem sfS_f {β : Bk} {b t : Nat} (ht : t < 10) (h : ¬ 0 ≤ sfM β b (oD t)) : sfS β b (10 - t) = sfS β b (10 - (t + 1)) := by
  obtain ⟨m, hm⟩ : ∃ m, 10 - t = m + 1 := ⟨9 - t, by omega⟩
  rw [hm, sfS, show 9 - m = t by omega, if_neg h, show 10 - (t + 1) = m by omega]
set_option maxHeartbeats 4000000 in
set_option maxRecDepth 100000 in
theorem k_X12_sparing (l : Launch) (G : GP) (ad : Nat → Nat) (σ : Nat → Nat → Int32) (p : Int32) (β : Bk) (hR : RB (σ 2) β) : CTE l G yX12_sparing cX12_sparing 9 (some .int) 6 [.ref (ad 0), .int p] (WM G ad σ) (some (.int (rfA (hbC p 4) (sparA β p)))) (fun z => WM G ad (ua (ua σ 0 (upd (upd (upd (upd (σ 0) 9 (z 0 9)) 10 (z 0 10)) 11 (z 0 11)) 12 (z 0 12))) 1 (rfz (σ 1) (hbC p 4)))) := by
  refine x_methE "BetsOnBetsModel" rfl (by decide +kernel) (fun z => by rfl) (Nat.le_of_ble_eq_true rfl) ?_
  intro pP eE sS mM args below meth cC A ls hC hr hkL hK hZ hA hH hl
  have hx := hC.1
  have hb := hC.2.1
  have hl : lv_has ls 9 [(0, .ref (ad 0)), (1, .int p)] := hl
  have hh4 := hR.2.2.1
  have hk6 := hR.2.2.2.1
  have pwh := pw4 hh4
  have pwk := pw6 hk6
  refine lv_iload_n hx hb dX12_sparing_0 rfl (lv_at hl 1 rfl) ?_
  refine x_callS (ws' := WM G ad σ) (As := [.int p]) (rest := []) (st' := [.int (bI (0 ≤ p ∧ p < 4))]) hC hK hZ hA hl.1 hH (k_X12_isPerson l G (pk ad []) (pk σ []) p) lk_X12_77 [] rfl rfl rfl rfl ⟨Nat.le_of_ble_eq_true rfl, Nat.le_of_ble_eq_true rfl⟩ ⟨Nat.le_refl _, Nat.le_refl _⟩ (Nat.le_of_ble_eq_true rfl) rfl dX12_sparing_1 (fun H locs hH => ?_)
  refine x_bne (tgt := 13) hC dX12_sparing_4 (by decide) (fun c4 => ?_) (fun c4 => ?_)
  · refine lv_aload_n hx hb dX12_sparing_13 rfl (lv_at hl 0 rfl) ?_
    refine lv_iload_n hx hb dX12_sparing_14 rfl (lv_at hl 1 rfl) ?_
    refine lv_aload_n hx hb dX12_sparing_15 rfl (lv_at hl 0 rfl) ?_
    refine lv_iload_n hx hb dX12_sparing_16 rfl (lv_at hl 1 rfl) ?_
    refine x_callVAE (wg := fun z17 => WM G ad (ua σ 0 (upd (upd (upd (upd (σ 0) 9 (z17 0 9)) 10 (z17 0 10)) 11 (z17 0 11)) 12 (z17 0 12)))) (As := [.int p]) (rest := [.int p, .ref (ad 0)]) (st' := [.int (nI (wEA β p)), .int p, .ref (ad 0)]) hC hK hZ hA hl.1 hH (k_X12_worstEnd l G ad σ p β hR) lk_X12_152 rfl 0 11 rfl rfl rfl ⟨Nat.le_of_ble_eq_true rfl, Nat.le_of_ble_eq_true rfl⟩ ⟨Nat.le_refl _, Nat.le_refl _⟩ (Nat.le_of_ble_eq_true rfl) rfl dX12_sparing_17 (fun z17 H locs hH => ?_)
    refine x_callVAE (wg := fun z20 => WM G ad (ua σ 0 (upd (upd (upd (upd (σ 0) 9 (z20 0 9)) 10 (z20 0 10)) 11 (z20 0 11)) 12 (z20 0 12)))) (As := [.int p, .int (nI (wEA β p))]) (rest := []) (st' := [.int (purA β p (nI (wEA β p)))]) hC hK hZ hA hl.1 hH (k_X12_purseOf l G ad (ua σ 0 (upd (upd (upd (upd (σ 0) 9 (z17 0 9)) 10 (z17 0 10)) 11 (z17 0 11)) 12 (z17 0 12))) p (nI (wEA β p)) β hR) lk_X12_132 rfl 0 11 rfl rfl rfl ⟨Nat.le_of_ble_eq_true rfl, Nat.le_of_ble_eq_true rfl⟩ ⟨Nat.le_refl _, Nat.le_refl _⟩ (Nat.le_of_ble_eq_true rfl) rfl dX12_sparing_20 (fun z20 H locs hH => ?_)
    refine x_topE (y := (worV β p)) rfl ?_
    refine lv_istore_n (lv' := [(2, .int (worV β p)), (0, .ref (ad 0)), (1, .int p)]) hx hb dX12_sparing_23 rfl hl (by decide) rfl (fun ls hl => ?_)
    refine lv_bipush (v := (-9)) hx hb dX12_sparing_24 (by decide) ?_
    refine lv_istore_n (lv' := [(3, .int (-9)), (2, .int (worV β p)), (0, .ref (ad 0)), (1, .int p)]) hx hb dX12_sparing_26 rfl hl (by decide) rfl (fun ls hl => ?_)
    refine lv_iconst (v := 0) hx hb dX12_sparing_27 (by decide) ?_
    refine lv_istore (lv' := [(4, .int 0), (3, .int (-9)), (2, .int (worV β p)), (0, .ref (ad 0)), (1, .int p)]) hx hb dX12_sparing_28 hl (by decide) rfl (fun ls hl => ?_)
    refine x_loop (G := G) (A := A) (H0 := sS.heap) (nL := 9) (α := Nat × (Nat → Nat → Int32)) (fun q_ => (bK β) - q_.1) (fun q_ => q_.1 ≤ (bK β)) (fun q_ => WM G ad (ua σ 0 (upd (upd (upd (upd (σ 0) 9 (q_.2 0 9)) 10 (q_.2 0 10)) 11 (q_.2 0 11)) 12 (q_.2 0 12)))) (fun q_ => [(0, .ref (ad 0)), (1, .int p), (2, .int ((spO β p q_.1).1)), (3, .int ((spO β p q_.1).2)), (4, .int (nI q_.1))]) ?_ (0, (ua σ 0 (upd (upd (upd (upd (σ 0) 9 (z20 0 9)) 10 (z20 0 10)) 11 (z20 0 11)) 12 (z20 0 12)))) (show 0 ≤ (bK β) from (Nat.zero_le _)) ?_ ?_
    · rintro ⟨b, z_b⟩ hi_b ih_b H locs ls hH hl
      replace hi_b : b ≤ (bK β) := hi_b
      replace hH : Hx G A (WM G ad (ua σ 0 (upd (upd (upd (upd (σ 0) 9 (z_b 0 9)) 10 (z_b 0 10)) 11 (z_b 0 11)) 12 (z_b 0 12)))) sS.heap H locs := hH
      replace hl : lv_has ls 9 [(0, .ref (ad 0)), (1, .int p), (2, .int ((spO β p b).1)), (3, .int ((spO β p b).2)), (4, .int (nI b))] := hl
      refine lv_iload hx hb dX12_sparing_30 (lv_at hl 4 rfl) ?_
      refine lv_aload_n hx hb dX12_sparing_32 rfl (lv_at hl 0 rfl) ?_
      refine gf_X12_13 (v := .ref (ad 2)) hC hK hH 0 rfl rfl dX12_sparing_33 ?_
      refine lv_iconst (v := 1) hx hb dX12_sparing_36 (by decide) ?_
      refine x_ialN (f := (σ 2)) hC hK hH 2 1 rfl rfl (by decide) (Nat.le_of_ble_eq_true rfl) dX12_sparing_37 ?_
      refine lv_icmp_ge (tgt := 149) hx hb dX12_sparing_38 (by decide) (fun c38 => ?_) (fun c38 => ?_)
      · have ge_b := lp_out (n := bK β) hR.2.1 (by omega) (by omega) c38
        have eq_b : b = bK β := by omega
        refine lv_iload_n hx hb dX12_sparing_149 rfl (lv_at hl 3 rfl) ?_
        exact x_iretE (ua σ 0 (upd (upd (upd (upd (σ 0) 9 (z_b 0 9)) 10 (z_b 0 10)) 11 (z_b 0 11)) 12 (z_b 0 12))) hC hr hkL hH (by (refine (rfA0 (cI_t c4)).trans ?_); rw [eq_b]; rfl) ((congrArg (fun z_ : Nat → Int32 => WM G ad (ua (ua σ 0 (upd (upd (upd (upd (σ 0) 9 (z_b 0 9)) 10 (z_b 0 10)) 11 (z_b 0 11)) 12 (z_b 0 12))) 1 z_)) (by exact rfz0 (cI_t c4) : (rfz (σ 1) (hbC p 4)) = (σ 1))).trans (show WM G ad (ua (ua σ 0 (upd (upd (upd (upd (σ 0) 9 (z_b 0 9)) 10 (z_b 0 10)) 11 (z_b 0 11)) 12 (z_b 0 12))) 1 (σ 1)) = WM G ad (ua σ 0 (upd (upd (upd (upd (σ 0) 9 (z_b 0 9)) 10 (z_b 0 10)) 11 (z_b 0 11)) 12 (z_b 0 12))) from rfl)) dX12_sparing_150
      · have lt_b := lp_in (n := bK β) hR.2.1 (by omega) (by omega) c38
        refine lv_aload_n hx hb dX12_sparing_41 rfl (lv_at hl 0 rfl) ?_
        refine lv_iload hx hb dX12_sparing_42 (lv_at hl 4 rfl) ?_
        refine lv_iconst (v := 5) hx hb dX12_sparing_44 (by decide) ?_
        refine x_callVA (ws' := WM G ad (ua σ 0 (upd (upd (upd (upd (σ 0) 9 (z_b 0 9)) 10 (z_b 0 10)) 11 (z_b 0 11)) 12 (z_b 0 12)))) (As := [.int (nI b), .int 5]) (rest := []) (st' := [.int (nm β b 5)]) hC hK hZ hA hl.1 hH (k_X12_get l G ad (ua σ 0 (upd (upd (upd (upd (σ 0) 9 (z_b 0 9)) 10 (z_b 0 10)) 11 (z_b 0 11)) 12 (z_b 0 12))) (nI b) 5 β b 5 hR rfl rfl (by omega) (by decide)) lk_X12_96 rfl 0 11 rfl rfl rfl ⟨Nat.le_of_ble_eq_true rfl, Nat.le_of_ble_eq_true rfl⟩ ⟨Nat.le_refl _, Nat.le_refl _⟩ (Nat.le_of_ble_eq_true rfl) rfl dX12_sparing_45 (fun H locs hH => ?_)
        refine lv_iload_n hx hb dX12_sparing_48 rfl (lv_at hl 1 rfl) ?_
        refine lv_icmp_eq (tgt := 55) hx hb dX12_sparing_49 (by decide) (fun c49 => ?_) (fun c49 => ?_)
        · refine lv_bipush (v := 10) hx hb dX12_sparing_55 (by decide) ?_
          refine lv_bipush (v := 7) hx hb dX12_sparing_57 (by decide) ?_
          refine lv_iload hx hb dX12_sparing_59 (lv_at hl 4 rfl) ?_
          refine lv_imul hx hb dX12_sparing_61 ?_
          refine lv_iadd hx hb dX12_sparing_62 ?_
          refine lv_iconst (v := 3) hx hb dX12_sparing_63 (by decide) ?_
          refine lv_iadd hx hb dX12_sparing_64 ?_
          refine lv_istore (lv' := [(5, .int ((10 + (7 * (nI b))) + 3)), (0, .ref (ad 0)), (1, .int p), (2, .int ((spO β p b).1)), (3, .int ((spO β p b).2)), (4, .int (nI b))]) hx hb dX12_sparing_65 hl (by decide) rfl (fun ls hl => ?_)
          refine lv_aload_n hx hb dX12_sparing_67 rfl (lv_at hl 1 rfl) ?_
          refine gf_X12_13 (v := .ref (ad 2)) hC hK hH 0 rfl rfl dX12_sparing_68 ?_
          refine lv_iload hx hb dX12_sparing_71 (lv_at hl 0 rfl) ?_
          refine x_ialN (f := (σ 2)) hC hK hH 2 (10 + (7 * b + 3)) rfl (by rw [nIa, nIa, nIm, Int32.add_assoc]; rfl) (by omega) (Nat.le_of_ble_eq_true rfl) dX12_sparing_73 ?_
          refine lv_istore (lv' := [(6, .int ((σ 2) (10 + (7 * b + 3)))), (5, .int ((10 + (7 * (nI b))) + 3)), (0, .ref (ad 0)), (1, .int p), (2, .int ((spO β p b).1)), (3, .int ((spO β p b).2)), (4, .int (nI b))]) hx hb dX12_sparing_74 hl (by decide) rfl (fun ls hl => ?_)
          refine lv_iconst (v := 0) hx hb dX12_sparing_76 (by decide) ?_
          refine lv_istore (lv' := [(7, .int 0), (6, .int ((σ 2) (10 + (7 * b + 3)))), (5, .int ((10 + (7 * (nI b))) + 3)), (0, .ref (ad 0)), (1, .int p), (2, .int ((spO β p b).1)), (3, .int ((spO β p b).2)), (4, .int (nI b))]) hx hb dX12_sparing_77 hl (by decide) rfl (fun ls hl => ?_)
          refine x_loop (G := G) (A := A) (H0 := sS.heap) (nL := 9) (α := Nat × (Nat → Nat → Int32)) (fun q_ => 100 - q_.1) (fun q_ => q_.1 ≤ 100) (fun q_ => WM G ad (ua (ua σ 0 (upd (upd (upd (upd (σ 0) 9 (q_.2 0 9)) 10 (q_.2 0 10)) 11 (q_.2 0 11)) 12 (q_.2 0 12))) 2 (spT (σ 2) (10 + (7 * b + 3)) nI q_.1))) (fun q_ => [(0, .ref (ad 0)), (1, .int p), (2, .int ((spI β p b (spO β p b) q_.1).1)), (3, .int ((spI β p b (spO β p b) q_.1).2)), (4, .int (nI b)), (5, .int ((10 + (7 * (nI b))) + 3)), (6, .int ((σ 2) (10 + (7 * b + 3)))), (7, .int (nI q_.1))]) ?_ (0, (ua σ 0 (upd (upd (upd (upd (σ 0) 9 (z_b 0 9)) 10 (z_b 0 10)) 11 (z_b 0 11)) 12 (z_b 0 12)))) (show 0 ≤ 100 from (Nat.zero_le _)) ?_ ?_
          · rintro ⟨t, z_t⟩ hi_t ih_t H locs ls hH hl
            replace hi_t : t ≤ 100 := hi_t
            replace hH : Hx G A (WM G ad (ua (ua σ 0 (upd (upd (upd (upd (σ 0) 9 (z_t 0 9)) 10 (z_t 0 10)) 11 (z_t 0 11)) 12 (z_t 0 12))) 2 (spT (σ 2) (10 + (7 * b + 3)) nI t))) sS.heap H locs := hH
            replace hl : lv_has ls 9 [(0, .ref (ad 0)), (1, .int p), (2, .int ((spI β p b (spO β p b) t).1)), (3, .int ((spI β p b (spO β p b) t).2)), (4, .int (nI b)), (5, .int ((10 + (7 * (nI b))) + 3)), (6, .int ((σ 2) (10 + (7 * b + 3)))), (7, .int (nI t))] := hl
            refine lv_iload hx hb dX12_sparing_79 (lv_at hl 7 rfl) ?_
            refine lv_bipush (v := 99) hx hb dX12_sparing_81 (by decide) ?_
            refine lv_icmp_gt (tgt := 134) hx hb dX12_sparing_83 (by decide) (fun c83 => ?_) (fun c83 => ?_)
            · have ge_t := lp_out1 (n := 99) rfl (by omega) (by omega) c83
              have eq_t : t = 100 := by omega
              subst eq_t
              refine lv_aload_n hx hb dX12_sparing_134 rfl (lv_at hl 0 rfl) ?_
              refine gf_X12_13 (v := .ref (ad 2)) hC hK hH 0 rfl rfl dX12_sparing_135 ?_
              refine lv_iload hx hb dX12_sparing_138 (lv_at hl 5 rfl) ?_
              refine lv_iload hx hb dX12_sparing_140 (lv_at hl 6 rfl) ?_
              refine x_iasN (f := (spT (σ 2) (10 + (7 * b + 3)) nI 100)) (ws' := WM G ad (ua (ua σ 0 (upd (upd (upd (upd (σ 0) 9 (z_t 0 9)) 10 (z_t 0 10)) 11 (z_t 0 11)) 12 (z_t 0 12))) 2 (upd (spT (σ 2) (10 + (7 * b + 3)) nI 100) (10 + (7 * b + 3)) ((σ 2) (10 + (7 * b + 3)))))) hC hK hH 2 (10 + (7 * b + 3)) rfl (by rw [nIa, nIa, nIm, Int32.add_assoc]; rfl) (by omega) (Nat.le_of_ble_eq_true rfl) dX12_sparing_142 rfl (fun H locs hH => ?_)
              replace hH : Hx G A (WM G ad (ua σ 0 (upd (upd (upd (upd (σ 0) 9 (z_t 0 9)) 10 (z_t 0 10)) 11 (z_t 0 11)) 12 (z_t 0 12)))) sS.heap H locs := hH.eq ((congrArg (fun z_ : Nat → Int32 => WM G ad (ua (ua σ 0 (upd (upd (upd (upd (σ 0) 9 (z_t 0 9)) 10 (z_t 0 10)) 11 (z_t 0 11)) 12 (z_t 0 12))) 2 z_)) (by exact spT_b _ _ _ _ : (upd (spT (σ 2) (10 + (7 * b + 3)) nI 100) (10 + (7 * b + 3)) ((σ 2) (10 + (7 * b + 3)))) = (σ 2))).trans (show WM G ad (ua (ua σ 0 (upd (upd (upd (upd (σ 0) 9 (z_t 0 9)) 10 (z_t 0 10)) 11 (z_t 0 11)) 12 (z_t 0 12))) 2 (σ 2)) = WM G ad (ua σ 0 (upd (upd (upd (upd (σ 0) 9 (z_t 0 9)) 10 (z_t 0 10)) 11 (z_t 0 11)) 12 (z_t 0 12))) from rfl))
              refine lv_iinc (v := ((nI b) + 1)) (lv' := [(4, .int ((nI b) + 1)), (0, .ref (ad 0)), (1, .int p), (2, .int ((spI β p b (spO β p b) 100).1)), (3, .int ((spI β p b (spO β p b) 100).2)), (5, .int ((10 + (7 * (nI b))) + 3)), (6, .int ((σ 2) (10 + (7 * b + 3)))), (7, .int (nI 100))]) hx hb dX12_sparing_143 hl (k := 4) rfl rfl (by decide) rfl (fun ls hl => ?_)
              refine lv_goto (tgt := 30) hx hb dX12_sparing_146 (by decide) ?_
              exact ih_b ((b + 1), (ua σ 0 (upd (upd (upd (upd (σ 0) 9 (z_t 0 9)) 10 (z_t 0 10)) 11 (z_t 0 11)) 12 (z_t 0 12)))) (show (b + 1) ≤ (bK β) from (by omega)) (show (bK β) - (b + 1) < (bK β) - b from (by omega)) _ _ _ (hH.eq rfl) (lv_eq (lv_sub hl [1, 2, 3, 4, 0] rfl) (lc_s (lc_s (lc_i (by first | rw [spO_f c49] | rw [spO_t c49] : (spI β p b (spO β p b) 100).1 = (spO β p (b + 1)).1) (lc_i (by first | rw [spO_f c49] | rw [spO_t c49] : (spI β p b (spO β p b) 100).2 = (spO β p (b + 1)).2) (lc_i (by exact nI_1 _ : ((nI b) + 1) = (nI (b + 1))) rfl))))))
            · have lt_t := lp_in1 (n := 99) rfl (by omega) (by omega) c83
              refine lv_aload_n hx hb dX12_sparing_86 rfl (lv_at hl 0 rfl) ?_
              refine gf_X12_13 (v := .ref (ad 2)) hC hK hH 0 rfl rfl dX12_sparing_87 ?_
              refine lv_iload hx hb dX12_sparing_90 (lv_at hl 5 rfl) ?_
              refine lv_iload hx hb dX12_sparing_92 (lv_at hl 7 rfl) ?_
              refine x_iasN (f := (spT (σ 2) (10 + (7 * b + 3)) nI t)) (ws' := WM G ad (ua (ua σ 0 (upd (upd (upd (upd (σ 0) 9 (z_t 0 9)) 10 (z_t 0 10)) 11 (z_t 0 11)) 12 (z_t 0 12))) 2 (upd (spT (σ 2) (10 + (7 * b + 3)) nI t) (10 + (7 * b + 3)) (nI t)))) hC hK hH 2 (10 + (7 * b + 3)) rfl (by rw [nIa, nIa, nIm, Int32.add_assoc]; rfl) (by omega) (Nat.le_of_ble_eq_true rfl) dX12_sparing_94 rfl (fun H locs hH => ?_)
              replace hH : Hx G A (WM G ad (ua (ua σ 0 (upd (upd (upd (upd (σ 0) 9 (z_t 0 9)) 10 (z_t 0 10)) 11 (z_t 0 11)) 12 (z_t 0 12))) 2 (upd (σ 2) (10 + (7 * b + 3)) (nI t)))) sS.heap H locs := hH.eq (congrArg (fun z_ : Nat → Int32 => WM G ad (ua (ua σ 0 (upd (upd (upd (upd (σ 0) 9 (z_t 0 9)) 10 (z_t 0 10)) 11 (z_t 0 11)) 12 (z_t 0 12))) 2 z_)) (by exact spT_u _ _ _ _ _ : (upd (spT (σ 2) (10 + (7 * b + 3)) nI t) (10 + (7 * b + 3)) (nI t)) = (upd (σ 2) (10 + (7 * b + 3)) (nI t))))
              refine lv_aload_n hx hb dX12_sparing_95 rfl (lv_at hl 0 rfl) ?_
              refine lv_iload_n hx hb dX12_sparing_96 rfl (lv_at hl 1 rfl) ?_
              refine lv_aload_n hx hb dX12_sparing_97 rfl (lv_at hl 0 rfl) ?_
              refine lv_iload_n hx hb dX12_sparing_98 rfl (lv_at hl 1 rfl) ?_
              refine x_callVAE (wg := fun z99 => WM G ad (ua (ua σ 0 (upd (upd (upd (upd (σ 0) 9 (z99 0 9)) 10 (z99 0 10)) 11 (z99 0 11)) 12 (z99 0 12))) 2 (upd (σ 2) (10 + (7 * b + 3)) (nI t)))) (As := [.int p]) (rest := [.int p, .ref (ad 0)]) (st' := [.int (nI (wEA (bSet β (7 * b + 3) (nI t)) p)), .int p, .ref (ad 0)]) hC hK hZ hA hl.1 hH (k_X12_worstEnd l G ad (ua (ua σ 0 (upd (upd (upd (upd (σ 0) 9 (z_t 0 9)) 10 (z_t 0 10)) 11 (z_t 0 11)) 12 (z_t 0 12))) 2 (upd (σ 2) (10 + (7 * b + 3)) (nI t))) p (bSet β (7 * b + 3) (nI t)) (hR.set (by omega) _)) lk_X12_152 rfl 0 11 rfl rfl rfl ⟨Nat.le_of_ble_eq_true rfl, Nat.le_of_ble_eq_true rfl⟩ ⟨Nat.le_refl _, Nat.le_refl _⟩ (Nat.le_of_ble_eq_true rfl) rfl dX12_sparing_99 (fun z99 H locs hH => ?_)
              refine x_callVAE (wg := fun z102 => WM G ad (ua (ua σ 0 (upd (upd (upd (upd (σ 0) 9 (z102 0 9)) 10 (z102 0 10)) 11 (z102 0 11)) 12 (z102 0 12))) 2 (upd (σ 2) (10 + (7 * b + 3)) (nI t)))) (As := [.int p, .int (nI (wEA (bSet β (7 * b + 3) (nI t)) p))]) (rest := []) (st' := [.int (purA (bSet β (7 * b + 3) (nI t)) p (nI (wEA (bSet β (7 * b + 3) (nI t)) p)))]) hC hK hZ hA hl.1 hH (k_X12_purseOf l G ad (ua (ua σ 0 (upd (upd (upd (upd (σ 0) 9 (z99 0 9)) 10 (z99 0 10)) 11 (z99 0 11)) 12 (z99 0 12))) 2 (upd (σ 2) (10 + (7 * b + 3)) (nI t))) p (nI (wEA (bSet β (7 * b + 3) (nI t)) p)) (bSet β (7 * b + 3) (nI t)) (hR.set (by omega) _)) lk_X12_132 rfl 0 11 rfl rfl rfl ⟨Nat.le_of_ble_eq_true rfl, Nat.le_of_ble_eq_true rfl⟩ ⟨Nat.le_refl _, Nat.le_refl _⟩ (Nat.le_of_ble_eq_true rfl) rfl dX12_sparing_102 (fun z102 H locs hH => ?_)
              refine x_topE (y := (worV (bSet β (7 * b + 3) (nI t)) p)) rfl ?_
              refine lv_istore (lv' := [(8, .int (worV (bSet β (7 * b + 3) (nI t)) p)), (0, .ref (ad 0)), (1, .int p), (2, .int ((spI β p b (spO β p b) t).1)), (3, .int ((spI β p b (spO β p b) t).2)), (4, .int (nI b)), (5, .int ((10 + (7 * (nI b))) + 3)), (6, .int ((σ 2) (10 + (7 * b + 3)))), (7, .int (nI t))]) hx hb dX12_sparing_105 hl (by decide) rfl (fun ls hl => ?_)
              refine lv_iload hx hb dX12_sparing_107 (lv_at hl 0 rfl) ?_
              refine lv_iload_n hx hb dX12_sparing_109 rfl (lv_at hl 3 rfl) ?_
              refine lv_icmp_gt (tgt := 116) hx hb dX12_sparing_110 (by decide) (fun c110 => ?_) (fun c110 => ?_)
              · refine lv_iload hx hb dX12_sparing_116 (lv_at hl 0 rfl) ?_
                refine lv_istore_n (lv' := [(2, .int (worV (bSet β (7 * b + 3) (nI t)) p)), (8, .int (worV (bSet β (7 * b + 3) (nI t)) p)), (0, .ref (ad 0)), (1, .int p), (3, .int ((spI β p b (spO β p b) t).2)), (4, .int (nI b)), (5, .int ((10 + (7 * (nI b))) + 3)), (6, .int ((σ 2) (10 + (7 * b + 3)))), (7, .int (nI t))]) hx hb dX12_sparing_118 rfl hl (by decide) rfl (fun ls hl => ?_)
                refine lv_bipush (v := 100) hx hb dX12_sparing_119 (by decide) ?_
                refine lv_iload hx hb dX12_sparing_121 (lv_at hl 5 rfl) ?_
                refine lv_imul hx hb dX12_sparing_123 ?_
                refine lv_iload hx hb dX12_sparing_124 (lv_at hl 8 rfl) ?_
                refine lv_iadd hx hb dX12_sparing_126 ?_
                refine lv_istore_n (lv' := [(3, .int ((100 * (nI b)) + (nI t))), (2, .int (worV (bSet β (7 * b + 3) (nI t)) p)), (8, .int (worV (bSet β (7 * b + 3) (nI t)) p)), (0, .ref (ad 0)), (1, .int p), (4, .int (nI b)), (5, .int ((10 + (7 * (nI b))) + 3)), (6, .int ((σ 2) (10 + (7 * b + 3)))), (7, .int (nI t))]) hx hb dX12_sparing_127 rfl hl (by decide) rfl (fun ls hl => ?_)
                refine lv_iinc (v := ((nI t) + 1)) (lv' := [(7, .int ((nI t) + 1)), (3, .int ((100 * (nI b)) + (nI t))), (2, .int (worV (bSet β (7 * b + 3) (nI t)) p)), (8, .int (worV (bSet β (7 * b + 3) (nI t)) p)), (0, .ref (ad 0)), (1, .int p), (4, .int (nI b)), (5, .int ((10 + (7 * (nI b))) + 3)), (6, .int ((σ 2) (10 + (7 * b + 3))))]) hx hb dX12_sparing_128 hl (k := 8) rfl rfl (by decide) rfl (fun ls hl => ?_)
                refine lv_goto (tgt := 79) hx hb dX12_sparing_131 (by decide) ?_
                exact ih_t ((t + 1), (ua (ua σ 0 (upd (upd (upd (upd (σ 0) 9 (z102 0 9)) 10 (z102 0 10)) 11 (z102 0 11)) 12 (z102 0 12))) 2 (upd (σ 2) (10 + (7 * b + 3)) (nI t)))) (show (t + 1) ≤ 100 from (by omega)) (show 100 - (t + 1) < 100 - t from (by omega)) _ _ _ (hH.eq (congrArg (fun z_ : Nat → Int32 => WM G ad (ua (ua σ 0 (upd (upd (upd (upd (σ 0) 9 (z102 0 9)) 10 (z102 0 10)) 11 (z102 0 11)) 12 (z102 0 12))) 2 z_)) (by exact spT_s _ _ nI _ : (upd (σ 2) (10 + (7 * b + 3)) (nI t)) = (spT (σ 2) (10 + (7 * b + 3)) nI (t + 1))))) (lv_eq (lv_sub hl [4, 5, 2, 1, 6, 7, 8, 0] rfl) (lc_s (lc_s (lc_i (by first | (rw [spI_f c110]; done) | (rw [spI_t c110]; done) : (worV (bSet β (7 * b + 3) (nI t)) p) = (spI β p b (spO β p b) (t + 1)).1) (lc_i (by first | (rw [spI_f c110]; done) | (rw [spI_t c110]; done) : ((100 * (nI b)) + (nI t)) = (spI β p b (spO β p b) (t + 1)).2) (lc_s (lc_s (lc_s (lc_i (by exact nI_1 _ : ((nI t) + 1) = (nI (t + 1))) rfl)))))))))
              · refine lv_goto (tgt := 128) hx hb dX12_sparing_113 (by decide) ?_
                refine lv_iinc (v := ((nI t) + 1)) (lv' := [(7, .int ((nI t) + 1)), (8, .int (worV (bSet β (7 * b + 3) (nI t)) p)), (0, .ref (ad 0)), (1, .int p), (2, .int ((spI β p b (spO β p b) t).1)), (3, .int ((spI β p b (spO β p b) t).2)), (4, .int (nI b)), (5, .int ((10 + (7 * (nI b))) + 3)), (6, .int ((σ 2) (10 + (7 * b + 3))))]) hx hb dX12_sparing_128 hl (k := 8) rfl rfl (by decide) rfl (fun ls hl => ?_)
                refine lv_goto (tgt := 79) hx hb dX12_sparing_131 (by decide) ?_
                exact ih_t ((t + 1), (ua (ua σ 0 (upd (upd (upd (upd (σ 0) 9 (z102 0 9)) 10 (z102 0 10)) 11 (z102 0 11)) 12 (z102 0 12))) 2 (upd (σ 2) (10 + (7 * b + 3)) (nI t)))) (show (t + 1) ≤ 100 from (by omega)) (show 100 - (t + 1) < 100 - t from (by omega)) _ _ _ (hH.eq (congrArg (fun z_ : Nat → Int32 => WM G ad (ua (ua σ 0 (upd (upd (upd (upd (σ 0) 9 (z102 0 9)) 10 (z102 0 10)) 11 (z102 0 11)) 12 (z102 0 12))) 2 z_)) (by exact spT_s _ _ nI _ : (upd (σ 2) (10 + (7 * b + 3)) (nI t)) = (spT (σ 2) (10 + (7 * b + 3)) nI (t + 1))))) (lv_eq (lv_sub hl [2, 3, 4, 5, 6, 7, 8, 0] rfl) (lc_s (lc_s (lc_i (by first | (rw [spI_f c110]; done) | (rw [spI_t c110]; done) : (spI β p b (spO β p b) t).1 = (spI β p b (spO β p b) (t + 1)).1) (lc_i (by first | (rw [spI_f c110]; done) | (rw [spI_t c110]; done) : (spI β p b (spO β p b) t).2 = (spI β p b (spO β p b) (t + 1)).2) (lc_s (lc_s (lc_s (lc_i (by exact nI_1 _ : ((nI t) + 1) = (nI (t + 1))) rfl)))))))))
          · exact hH.eq (Eq.trans (show WM G ad (ua σ 0 (upd (upd (upd (upd (σ 0) 9 (z_b 0 9)) 10 (z_b 0 10)) 11 (z_b 0 11)) 12 (z_b 0 12))) = WM G ad (ua (ua σ 0 (upd (upd (upd (upd (σ 0) 9 (z_b 0 9)) 10 (z_b 0 10)) 11 (z_b 0 11)) 12 (z_b 0 12))) 2 (σ 2)) from rfl) (congrArg (fun z_ : Nat → Int32 => WM G ad (ua (ua σ 0 (upd (upd (upd (upd (σ 0) 9 (z_b 0 9)) 10 (z_b 0 10)) 11 (z_b 0 11)) 12 (z_b 0 12))) 2 z_)) (by rfl : (σ 2) = (spT (σ 2) (10 + (7 * b + 3)) nI 0))))
          · exact lv_eq (lv_sub hl [3, 4, 5, 6, 7, 2, 1, 0] rfl) (lc_s (lc_s (lc_i (by rfl : (spO β p b).1 = (spI β p b (spO β p b) 0).1) (lc_i (by rfl : (spO β p b).2 = (spI β p b (spO β p b) 0).2) (lc_s (lc_s (lc_s (lc_i (by rfl : 0 = (nI 0)) rfl))))))))
        · refine lv_goto (tgt := 143) hx hb dX12_sparing_52 (by decide) ?_
          refine lv_iinc (v := ((nI b) + 1)) (lv' := [(4, .int ((nI b) + 1)), (0, .ref (ad 0)), (1, .int p), (2, .int ((spO β p b).1)), (3, .int ((spO β p b).2))]) hx hb dX12_sparing_143 hl (k := 4) rfl rfl (by decide) rfl (fun ls hl => ?_)
          refine lv_goto (tgt := 30) hx hb dX12_sparing_146 (by decide) ?_
          exact ih_b ((b + 1), (ua σ 0 (upd (upd (upd (upd (σ 0) 9 (z_b 0 9)) 10 (z_b 0 10)) 11 (z_b 0 11)) 12 (z_b 0 12)))) (show (b + 1) ≤ (bK β) from (by omega)) (show (bK β) - (b + 1) < (bK β) - b from (by omega)) _ _ _ (hH.eq rfl) (lv_eq (lv_sub hl [1, 2, 3, 4, 0] rfl) (lc_s (lc_s (lc_i (by first | rw [spO_f c49] | rw [spO_t c49] : (spO β p b).1 = (spO β p (b + 1)).1) (lc_i (by first | rw [spO_f c49] | rw [spO_t c49] : (spO β p b).2 = (spO β p (b + 1)).2) (lc_i (by exact nI_1 _ : ((nI b) + 1) = (nI (b + 1))) rfl))))))
    · exact hH.eq rfl
    · exact lv_eq (lv_sub hl [3, 4, 2, 1, 0] rfl) (lc_s (lc_s (lc_i (by rfl : (worV β p) = (spO β p 0).1) (lc_i (by rfl : (-9) = (spO β p 0).2) (lc_i (by rfl : 0 = (nI 0)) rfl)))))
  · refine lv_aload_n hx hb dX12_sparing_7 rfl (lv_at hl 0 rfl) ?_
    refine lv_iconst (v := (-1)) hx hb dX12_sparing_8 (by decide) ?_
    refine x_callVA (ws' := WM G ad (ua σ 1 (upd (σ 1) 1 ((σ 1) 1 + 1)))) (As := [.int (-1)]) (rest := []) (st' := [.int (-1)]) hC hK hZ hA hl.1 hH (k_X12_refuse l G ad σ (-1) 1 rfl (by decide)) lk_X12_47 rfl 0 11 rfl rfl rfl ⟨Nat.le_of_ble_eq_true rfl, Nat.le_of_ble_eq_true rfl⟩ ⟨Nat.le_refl _, Nat.le_refl _⟩ (Nat.le_of_ble_eq_true rfl) rfl dX12_sparing_9 (fun H locs hH => ?_)
    exact x_iretE (ua σ 1 (upd (σ 1) 1 ((σ 1) 1 + 1))) hC hr hkL hH (by exact rfAk (cI_f c4) (by decide)) (congrArg (fun z_ : Nat → Int32 => WM G ad (ua σ 1 z_)) (by exact rfzk (cI_f c4) (by decide) : (rfz (σ 1) (hbC p 4)) = (upd (σ 1) 1 ((σ 1) 1 + 1)))) dX12_sparing_12
set_option maxHeartbeats 4000000 in
set_option maxRecDepth 100000 in
theorem k_X12_safeOdds (l : Launch) (G : GP) (ad : Nat → Nat) (σ : Nat → Nat → Int32) (b : Int32) (β : Bk) (hR : RB (σ 2) β) : CTE l G yX12_safeOdds cX12_safeOdds 6 (some .int) 6 [.ref (ad 0), .int b] (WM G ad σ) (some (.int (rfA (hbC b (bK β)) (sfS β (b).toNatClampNeg 10)))) (fun z => WM G ad (ua (ua σ 0 (upd (upd (upd (upd (σ 0) 9 (z 0 9)) 10 (z 0 10)) 11 (z 0 11)) 12 (z 0 12))) 1 (rfz (σ 1) (hbC b (bK β))))) := by
  refine x_methE "BetsOnBetsModel" rfl (by decide +kernel) (fun z => by rfl) (Nat.le_of_ble_eq_true rfl) ?_
  intro pP eE sS mM args below meth cC A ls hC hr hkL hK hZ hA hH hl
  have hx := hC.1
  have hb := hC.2.1
  have hl : lv_has ls 6 [(0, .ref (ad 0)), (1, .int b)] := hl
  have hh4 := hR.2.2.1
  have hk6 := hR.2.2.2.1
  have pwh := pw4 hh4
  have pwk := pw6 hk6
  refine lv_aload_n hx hb dX12_safeOdds_0 rfl (lv_at hl 0 rfl) ?_
  refine lv_iload_n hx hb dX12_safeOdds_1 rfl (lv_at hl 1 rfl) ?_
  refine x_callVA (ws' := WM G ad σ) (As := [.int b]) (rest := []) (st' := [.int (bI (0 ≤ b ∧ b < nI (bK β)))]) hC hK hZ hA hl.1 hH (k_X12_isBet l G ad σ b β hR) lk_X12_93 rfl 0 11 rfl rfl rfl ⟨Nat.le_of_ble_eq_true rfl, Nat.le_of_ble_eq_true rfl⟩ ⟨Nat.le_refl _, Nat.le_refl _⟩ (Nat.le_of_ble_eq_true rfl) rfl dX12_safeOdds_2 (fun H locs hH => ?_)
  refine x_bne (tgt := 14) hC dX12_safeOdds_5 (by decide) (fun c5 => ?_) (fun c5 => ?_)
  · obtain ⟨bj_, hbj_, eb_⟩ := inb_of (by omega) c5
    refine lv_bipush (v := 10) hx hb dX12_safeOdds_14 (by decide) ?_
    refine lv_bipush (v := 7) hx hb dX12_safeOdds_16 (by decide) ?_
    refine lv_iload_n hx hb dX12_safeOdds_18 rfl (lv_at hl 1 rfl) ?_
    refine lv_imul hx hb dX12_safeOdds_19 ?_
    refine lv_iadd hx hb dX12_safeOdds_20 ?_
    refine lv_iconst (v := 4) hx hb dX12_safeOdds_21 (by decide) ?_
    refine lv_iadd hx hb dX12_safeOdds_22 ?_
    refine lv_istore_n (lv' := [(2, .int ((10 + (7 * b)) + 4)), (0, .ref (ad 0)), (1, .int b)]) hx hb dX12_safeOdds_23 rfl hl (by decide) rfl (fun ls hl => ?_)
    refine lv_aload_n hx hb dX12_safeOdds_24 rfl (lv_at hl 1 rfl) ?_
    refine gf_X12_13 (v := .ref (ad 2)) hC hK hH 0 rfl rfl dX12_safeOdds_25 ?_
    refine lv_iload_n hx hb dX12_safeOdds_28 rfl (lv_at hl 0 rfl) ?_
    refine x_ialN (f := (σ 2)) hC hK hH 2 (10 + (7 * bj_ + 4)) rfl (by rw [eb_, nIa, nIa, nIm, Int32.add_assoc]; rfl) (by omega) (Nat.le_of_ble_eq_true rfl) dX12_safeOdds_29 ?_
    refine lv_istore_n (lv' := [(3, .int ((σ 2) (10 + (7 * bj_ + 4)))), (2, .int ((10 + (7 * b)) + 4)), (0, .ref (ad 0)), (1, .int b)]) hx hb dX12_safeOdds_30 rfl hl (by decide) rfl (fun ls hl => ?_)
    refine lv_bipush (v := (-9)) hx hb dX12_safeOdds_31 (by decide) ?_
    refine lv_istore (lv' := [(4, .int (-9)), (3, .int ((σ 2) (10 + (7 * bj_ + 4)))), (2, .int ((10 + (7 * b)) + 4)), (0, .ref (ad 0)), (1, .int b)]) hx hb dX12_safeOdds_33 hl (by decide) rfl (fun ls hl => ?_)
    refine lv_bipush (v := 9) hx hb dX12_safeOdds_35 (by decide) ?_
    refine lv_istore (lv' := [(5, .int 9), (4, .int (-9)), (3, .int ((σ 2) (10 + (7 * bj_ + 4)))), (2, .int ((10 + (7 * b)) + 4)), (0, .ref (ad 0)), (1, .int b)]) hx hb dX12_safeOdds_37 hl (by decide) rfl (fun ls hl => ?_)
    refine x_loop (G := G) (A := A) (H0 := sS.heap) (nL := 6) (α := Nat × Int32 × (Nat → Nat → Int32)) (fun q_ => 10 - q_.1) (fun q_ => q_.1 ≤ 10 ∧ ((q_.2.1 = -9 ∧ sfS β bj_ (10 - q_.1) = sfS β bj_ 10) ∨ (0 ≤ q_.2.1 ∧ q_.2.1 = sfS β bj_ 10))) (fun q_ => WM G ad (ua (ua σ 0 (upd (upd (upd (upd (σ 0) 9 (q_.2.2 0 9)) 10 (q_.2.2 0 10)) 11 (q_.2.2 0 11)) 12 (q_.2.2 0 12))) 2 (spT (σ 2) (10 + (7 * bj_ + 4)) oD q_.1))) (fun q_ => [(0, .ref (ad 0)), (1, .int b), (2, .int ((10 + (7 * b)) + 4)), (3, .int ((σ 2) (10 + (7 * bj_ + 4)))), (4, .int q_.2.1), (5, .int (oD q_.1))]) ?_ (0, (-9), σ) (show 0 ≤ 10 ∧ (((-9) = -9 ∧ sfS β bj_ (10 - 0) = sfS β bj_ 10) ∨ (0 ≤ (-9) ∧ (-9) = sfS β bj_ 10)) from ⟨by omega, Or.inl ⟨rfl, rfl⟩⟩) ?_ ?_
    · rintro ⟨t, fo, z_t⟩ hi_t ih_t H locs ls hH hl
      replace hi_t : t ≤ 10 ∧ ((fo = -9 ∧ sfS β bj_ (10 - t) = sfS β bj_ 10) ∨ (0 ≤ fo ∧ fo = sfS β bj_ 10)) := hi_t
      replace hH : Hx G A (WM G ad (ua (ua σ 0 (upd (upd (upd (upd (σ 0) 9 (z_t 0 9)) 10 (z_t 0 10)) 11 (z_t 0 11)) 12 (z_t 0 12))) 2 (spT (σ 2) (10 + (7 * bj_ + 4)) oD t))) sS.heap H locs := hH
      replace hl : lv_has ls 6 [(0, .ref (ad 0)), (1, .int b), (2, .int ((10 + (7 * b)) + 4)), (3, .int ((σ 2) (10 + (7 * bj_ + 4)))), (4, .int fo), (5, .int (oD t))] := hl
      have hi_t1 := hi_t.1
      refine lv_iload hx hb dX12_safeOdds_39 (lv_at hl 5 rfl) ?_
      refine lv_if_lt (tgt := 86) hx hb dX12_safeOdds_41 (by decide) (fun c41 => ?_) (fun c41 => ?_)
      · refine lv_aload_n hx hb dX12_safeOdds_86 rfl (lv_at hl 0 rfl) ?_
        refine gf_X12_13 (v := .ref (ad 2)) hC hK hH 0 rfl rfl dX12_safeOdds_87 ?_
        refine lv_iload_n hx hb dX12_safeOdds_90 rfl (lv_at hl 2 rfl) ?_
        refine lv_iload_n hx hb dX12_safeOdds_91 rfl (lv_at hl 3 rfl) ?_
        refine x_iasN (f := (spT (σ 2) (10 + (7 * bj_ + 4)) oD t)) (ws' := WM G ad (ua (ua σ 0 (upd (upd (upd (upd (σ 0) 9 (z_t 0 9)) 10 (z_t 0 10)) 11 (z_t 0 11)) 12 (z_t 0 12))) 2 (upd (spT (σ 2) (10 + (7 * bj_ + 4)) oD t) (10 + (7 * bj_ + 4)) ((σ 2) (10 + (7 * bj_ + 4)))))) hC hK hH 2 (10 + (7 * bj_ + 4)) rfl (by rw [eb_, nIa, nIa, nIm, Int32.add_assoc]; rfl) (by omega) (Nat.le_of_ble_eq_true rfl) dX12_safeOdds_92 rfl (fun H locs hH => ?_)
        replace hH : Hx G A (WM G ad (ua σ 0 (upd (upd (upd (upd (σ 0) 9 (z_t 0 9)) 10 (z_t 0 10)) 11 (z_t 0 11)) 12 (z_t 0 12)))) sS.heap H locs := hH.eq ((congrArg (fun z_ : Nat → Int32 => WM G ad (ua (ua σ 0 (upd (upd (upd (upd (σ 0) 9 (z_t 0 9)) 10 (z_t 0 10)) 11 (z_t 0 11)) 12 (z_t 0 12))) 2 z_)) (by exact spT_b _ _ _ _ : (upd (spT (σ 2) (10 + (7 * bj_ + 4)) oD t) (10 + (7 * bj_ + 4)) ((σ 2) (10 + (7 * bj_ + 4)))) = (σ 2))).trans (show WM G ad (ua (ua σ 0 (upd (upd (upd (upd (σ 0) 9 (z_t 0 9)) 10 (z_t 0 10)) 11 (z_t 0 11)) 12 (z_t 0 12))) 2 (σ 2)) = WM G ad (ua σ 0 (upd (upd (upd (upd (σ 0) 9 (z_t 0 9)) 10 (z_t 0 10)) 11 (z_t 0 11)) 12 (z_t 0 12))) from rfl))
        refine lv_iload hx hb dX12_safeOdds_93 (lv_at hl 4 rfl) ?_
        exact x_iretE (ua σ 0 (upd (upd (upd (upd (σ 0) 9 (z_t 0 9)) 10 (z_t 0 10)) 11 (z_t 0 11)) 12 (z_t 0 12))) hC hr hkL hH (by (refine (rfA0 (cI_t c5)).trans ?_); rw [eb_, nI_clamp (by omega)]; first | (have e10_ : t = 10 := (by have := (oD_n t (by omega)).mp c41; omega); exact hi_t.2.elim (fun z => by rw [z.1, ← z.2, e10_]; rfl) (fun z => z.2.symm)) | exact hi_t.2.elim (fun z => absurd c46 (by rw [z.1]; decide)) (fun z => z.2.symm)) ((congrArg (fun z_ : Nat → Int32 => WM G ad (ua (ua σ 0 (upd (upd (upd (upd (σ 0) 9 (z_t 0 9)) 10 (z_t 0 10)) 11 (z_t 0 11)) 12 (z_t 0 12))) 1 z_)) (by exact rfz0 (cI_t c5) : (rfz (σ 1) (hbC b (bK β))) = (σ 1))).trans (show WM G ad (ua (ua σ 0 (upd (upd (upd (upd (σ 0) 9 (z_t 0 9)) 10 (z_t 0 10)) 11 (z_t 0 11)) 12 (z_t 0 12))) 1 (σ 1)) = WM G ad (ua σ 0 (upd (upd (upd (upd (σ 0) 9 (z_t 0 9)) 10 (z_t 0 10)) 11 (z_t 0 11)) 12 (z_t 0 12))) from rfl)) dX12_safeOdds_95
      · have t10_ : t < 10 := by have := mt (oD_n t (by omega)).mpr c41; omega
        refine lv_iload hx hb dX12_safeOdds_44 (lv_at hl 4 rfl) ?_
        refine lv_if_ge (tgt := 86) hx hb dX12_safeOdds_46 (by decide) (fun c46 => ?_) (fun c46 => ?_)
        · refine lv_aload_n hx hb dX12_safeOdds_86 rfl (lv_at hl 0 rfl) ?_
          refine gf_X12_13 (v := .ref (ad 2)) hC hK hH 0 rfl rfl dX12_safeOdds_87 ?_
          refine lv_iload_n hx hb dX12_safeOdds_90 rfl (lv_at hl 2 rfl) ?_
          refine lv_iload_n hx hb dX12_safeOdds_91 rfl (lv_at hl 3 rfl) ?_
          refine x_iasN (f := (spT (σ 2) (10 + (7 * bj_ + 4)) oD t)) (ws' := WM G ad (ua (ua σ 0 (upd (upd (upd (upd (σ 0) 9 (z_t 0 9)) 10 (z_t 0 10)) 11 (z_t 0 11)) 12 (z_t 0 12))) 2 (upd (spT (σ 2) (10 + (7 * bj_ + 4)) oD t) (10 + (7 * bj_ + 4)) ((σ 2) (10 + (7 * bj_ + 4)))))) hC hK hH 2 (10 + (7 * bj_ + 4)) rfl (by rw [eb_, nIa, nIa, nIm, Int32.add_assoc]; rfl) (by omega) (Nat.le_of_ble_eq_true rfl) dX12_safeOdds_92 rfl (fun H locs hH => ?_)
          replace hH : Hx G A (WM G ad (ua σ 0 (upd (upd (upd (upd (σ 0) 9 (z_t 0 9)) 10 (z_t 0 10)) 11 (z_t 0 11)) 12 (z_t 0 12)))) sS.heap H locs := hH.eq ((congrArg (fun z_ : Nat → Int32 => WM G ad (ua (ua σ 0 (upd (upd (upd (upd (σ 0) 9 (z_t 0 9)) 10 (z_t 0 10)) 11 (z_t 0 11)) 12 (z_t 0 12))) 2 z_)) (by exact spT_b _ _ _ _ : (upd (spT (σ 2) (10 + (7 * bj_ + 4)) oD t) (10 + (7 * bj_ + 4)) ((σ 2) (10 + (7 * bj_ + 4)))) = (σ 2))).trans (show WM G ad (ua (ua σ 0 (upd (upd (upd (upd (σ 0) 9 (z_t 0 9)) 10 (z_t 0 10)) 11 (z_t 0 11)) 12 (z_t 0 12))) 2 (σ 2)) = WM G ad (ua σ 0 (upd (upd (upd (upd (σ 0) 9 (z_t 0 9)) 10 (z_t 0 10)) 11 (z_t 0 11)) 12 (z_t 0 12))) from rfl))
          refine lv_iload hx hb dX12_safeOdds_93 (lv_at hl 4 rfl) ?_
          exact x_iretE (ua σ 0 (upd (upd (upd (upd (σ 0) 9 (z_t 0 9)) 10 (z_t 0 10)) 11 (z_t 0 11)) 12 (z_t 0 12))) hC hr hkL hH (by (refine (rfA0 (cI_t c5)).trans ?_); rw [eb_, nI_clamp (by omega)]; first | (have e10_ : t = 10 := (by have := (oD_n t (by omega)).mp c41; omega); exact hi_t.2.elim (fun z => by rw [z.1, ← z.2, e10_]; rfl) (fun z => z.2.symm)) | exact hi_t.2.elim (fun z => absurd c46 (by rw [z.1]; decide)) (fun z => z.2.symm)) ((congrArg (fun z_ : Nat → Int32 => WM G ad (ua (ua σ 0 (upd (upd (upd (upd (σ 0) 9 (z_t 0 9)) 10 (z_t 0 10)) 11 (z_t 0 11)) 12 (z_t 0 12))) 1 z_)) (by exact rfz0 (cI_t c5) : (rfz (σ 1) (hbC b (bK β))) = (σ 1))).trans (show WM G ad (ua (ua σ 0 (upd (upd (upd (upd (σ 0) 9 (z_t 0 9)) 10 (z_t 0 10)) 11 (z_t 0 11)) 12 (z_t 0 12))) 1 (σ 1)) = WM G ad (ua σ 0 (upd (upd (upd (upd (σ 0) 9 (z_t 0 9)) 10 (z_t 0 10)) 11 (z_t 0 11)) 12 (z_t 0 12))) from rfl)) dX12_safeOdds_95
        · have fo9_ : fo = -9 := hi_t.2.elim (fun z => z.1) (fun z => absurd z.1 c46)
          have rs_ : sfS β bj_ (10 - t) = sfS β bj_ 10 := hi_t.2.elim (fun z => z.2) (fun z => absurd z.1 c46)
          refine lv_aload_n hx hb dX12_safeOdds_49 rfl (lv_at hl 0 rfl) ?_
          refine gf_X12_13 (v := .ref (ad 2)) hC hK hH 0 rfl rfl dX12_safeOdds_50 ?_
          refine lv_iload_n hx hb dX12_safeOdds_53 rfl (lv_at hl 2 rfl) ?_
          refine lv_iload hx hb dX12_safeOdds_54 (lv_at hl 5 rfl) ?_
          refine x_iasN (f := (spT (σ 2) (10 + (7 * bj_ + 4)) oD t)) (ws' := WM G ad (ua (ua σ 0 (upd (upd (upd (upd (σ 0) 9 (z_t 0 9)) 10 (z_t 0 10)) 11 (z_t 0 11)) 12 (z_t 0 12))) 2 (upd (spT (σ 2) (10 + (7 * bj_ + 4)) oD t) (10 + (7 * bj_ + 4)) (oD t)))) hC hK hH 2 (10 + (7 * bj_ + 4)) rfl (by rw [eb_, nIa, nIa, nIm, Int32.add_assoc]; rfl) (by omega) (Nat.le_of_ble_eq_true rfl) dX12_safeOdds_56 rfl (fun H locs hH => ?_)
          replace hH : Hx G A (WM G ad (ua (ua σ 0 (upd (upd (upd (upd (σ 0) 9 (z_t 0 9)) 10 (z_t 0 10)) 11 (z_t 0 11)) 12 (z_t 0 12))) 2 (upd (σ 2) (10 + (7 * bj_ + 4)) (oD t)))) sS.heap H locs := hH.eq (congrArg (fun z_ : Nat → Int32 => WM G ad (ua (ua σ 0 (upd (upd (upd (upd (σ 0) 9 (z_t 0 9)) 10 (z_t 0 10)) 11 (z_t 0 11)) 12 (z_t 0 12))) 2 z_)) (by exact spT_u _ _ _ _ _ : (upd (spT (σ 2) (10 + (7 * bj_ + 4)) oD t) (10 + (7 * bj_ + 4)) (oD t)) = (upd (σ 2) (10 + (7 * bj_ + 4)) (oD t))))
          refine lv_aload_n hx hb dX12_safeOdds_57 rfl (lv_at hl 0 rfl) ?_
          refine lv_aload_n hx hb dX12_safeOdds_58 rfl (lv_at hl 0 rfl) ?_
          refine lv_iload_n hx hb dX12_safeOdds_59 rfl (lv_at hl 1 rfl) ?_
          refine lv_bipush (v := 6) hx hb dX12_safeOdds_60 (by decide) ?_
          refine x_callVA (ws' := WM G ad (ua (ua σ 0 (upd (upd (upd (upd (σ 0) 9 (z_t 0 9)) 10 (z_t 0 10)) 11 (z_t 0 11)) 12 (z_t 0 12))) 2 (upd (σ 2) (10 + (7 * bj_ + 4)) (oD t)))) (As := [.int b, .int 6]) (rest := [.ref (ad 0)]) (st' := [.int (nm (bSet β (7 * bj_ + 4) (oD t)) bj_ 6), .ref (ad 0)]) hC hK hZ hA hl.1 hH (k_X12_get l G ad (ua (ua σ 0 (upd (upd (upd (upd (σ 0) 9 (z_t 0 9)) 10 (z_t 0 10)) 11 (z_t 0 11)) 12 (z_t 0 12))) 2 (upd (σ 2) (10 + (7 * bj_ + 4)) (oD t))) b 6 (bSet β (7 * bj_ + 4) (oD t)) bj_ 6 (hR.set (by omega) _) eb_ rfl (by omega) (by decide)) lk_X12_96 rfl 0 11 rfl rfl rfl ⟨Nat.le_of_ble_eq_true rfl, Nat.le_of_ble_eq_true rfl⟩ ⟨Nat.le_refl _, Nat.le_refl _⟩ (Nat.le_of_ble_eq_true rfl) rfl dX12_safeOdds_62 (fun H locs hH => ?_)
          refine x_callVAE (wg := fun z65 => WM G ad (ua (ua σ 0 (upd (upd (upd (upd (σ 0) 9 (z65 0 9)) 10 (z65 0 10)) 11 (z65 0 11)) 12 (z65 0 12))) 2 (upd (σ 2) (10 + (7 * bj_ + 4)) (oD t)))) (As := [.int (nm (bSet β (7 * bj_ + 4) (oD t)) bj_ 6)]) (rest := []) (st' := [.int (meanA (bSet β (7 * bj_ + 4) (oD t)) (nm (bSet β (7 * bj_ + 4) (oD t)) bj_ 6))]) hC hK hZ hA hl.1 hH (k_X12_meanOf l G ad (ua (ua σ 0 (upd (upd (upd (upd (σ 0) 9 (z_t 0 9)) 10 (z_t 0 10)) 11 (z_t 0 11)) 12 (z_t 0 12))) 2 (upd (σ 2) (10 + (7 * bj_ + 4)) (oD t))) (nm (bSet β (7 * bj_ + 4) (oD t)) bj_ 6) (bSet β (7 * bj_ + 4) (oD t)) (hR.set (by omega) _)) lk_X12_146 rfl 0 11 rfl rfl rfl ⟨Nat.le_of_ble_eq_true rfl, Nat.le_of_ble_eq_true rfl⟩ ⟨Nat.le_refl _, Nat.le_refl _⟩ (Nat.le_of_ble_eq_true rfl) rfl dX12_safeOdds_65 (fun z65 H locs hH => ?_)
          refine x_topE (y := (sfM β bj_ (oD t))) rfl ?_
          refine lv_if_lt (tgt := 76) hx hb dX12_safeOdds_68 (by decide) (fun c68 => ?_) (fun c68 => ?_)
          · refine lv_bipush (v := (-9)) hx hb dX12_safeOdds_76 (by decide) ?_
            refine lv_istore (lv' := [(4, .int (-9)), (0, .ref (ad 0)), (1, .int b), (2, .int ((10 + (7 * b)) + 4)), (3, .int ((σ 2) (10 + (7 * bj_ + 4)))), (5, .int (oD t))]) hx hb dX12_safeOdds_78 hl (by decide) rfl (fun ls hl => ?_)
            refine lv_iinc (v := ((oD t) + (-1))) (lv' := [(5, .int ((oD t) + (-1))), (4, .int (-9)), (0, .ref (ad 0)), (1, .int b), (2, .int ((10 + (7 * b)) + 4)), (3, .int ((σ 2) (10 + (7 * bj_ + 4))))]) hx hb dX12_safeOdds_80 hl (k := 5) rfl rfl (by decide) rfl (fun ls hl => ?_)
            refine lv_goto (tgt := 39) hx hb dX12_safeOdds_83 (by decide) ?_
            exact ih_t ((t + 1), (-9), (ua (ua σ 0 (upd (upd (upd (upd (σ 0) 9 (z65 0 9)) 10 (z65 0 10)) 11 (z65 0 11)) 12 (z65 0 12))) 2 (upd (σ 2) (10 + (7 * bj_ + 4)) (oD t)))) (show (t + 1) ≤ 10 ∧ (((-9) = -9 ∧ sfS β bj_ (10 - (t + 1)) = sfS β bj_ 10) ∨ (0 ≤ (-9) ∧ (-9) = sfS β bj_ 10)) from ⟨by omega, by first | exact Or.inl ⟨rfl, (sfS_f t10_ (Int32.not_le.mpr c68)).symm.trans rs_⟩ | exact Or.inr ⟨oD_p t t10_, (sfS_t t10_ (Int32.not_lt.mp c68)).symm.trans rs_⟩⟩) (show 10 - (t + 1) < 10 - t from (by omega)) _ _ _ (hH.eq (congrArg (fun z_ : Nat → Int32 => WM G ad (ua (ua σ 0 (upd (upd (upd (upd (σ 0) 9 (z65 0 9)) 10 (z65 0 10)) 11 (z65 0 11)) 12 (z65 0 12))) 2 z_)) (by exact spT_s _ _ oD _ : (upd (σ 2) (10 + (7 * bj_ + 4)) (oD t)) = (spT (σ 2) (10 + (7 * bj_ + 4)) oD (t + 1))))) (lv_eq (lv_sub hl [2, 3, 4, 5, 1, 0] rfl) (lc_s (lc_s (lc_s (lc_s (lc_s (lc_i (by exact oD_1 _ (by omega) : ((oD t) + (-1)) = (oD (t + 1))) rfl)))))))
          · refine lv_iload hx hb dX12_safeOdds_71 (lv_at hl 5 rfl) ?_
            refine lv_goto (tgt := 78) hx hb dX12_safeOdds_73 (by decide) ?_
            refine lv_istore (lv' := [(4, .int (oD t)), (0, .ref (ad 0)), (1, .int b), (2, .int ((10 + (7 * b)) + 4)), (3, .int ((σ 2) (10 + (7 * bj_ + 4)))), (5, .int (oD t))]) hx hb dX12_safeOdds_78 hl (by decide) rfl (fun ls hl => ?_)
            refine lv_iinc (v := ((oD t) + (-1))) (lv' := [(5, .int ((oD t) + (-1))), (4, .int (oD t)), (0, .ref (ad 0)), (1, .int b), (2, .int ((10 + (7 * b)) + 4)), (3, .int ((σ 2) (10 + (7 * bj_ + 4))))]) hx hb dX12_safeOdds_80 hl (k := 5) rfl rfl (by decide) rfl (fun ls hl => ?_)
            refine lv_goto (tgt := 39) hx hb dX12_safeOdds_83 (by decide) ?_
            exact ih_t ((t + 1), (oD t), (ua (ua σ 0 (upd (upd (upd (upd (σ 0) 9 (z65 0 9)) 10 (z65 0 10)) 11 (z65 0 11)) 12 (z65 0 12))) 2 (upd (σ 2) (10 + (7 * bj_ + 4)) (oD t)))) (show (t + 1) ≤ 10 ∧ (((oD t) = -9 ∧ sfS β bj_ (10 - (t + 1)) = sfS β bj_ 10) ∨ (0 ≤ (oD t) ∧ (oD t) = sfS β bj_ 10)) from ⟨by omega, by first | exact Or.inl ⟨rfl, (sfS_f t10_ (Int32.not_le.mpr c68)).symm.trans rs_⟩ | exact Or.inr ⟨oD_p t t10_, (sfS_t t10_ (Int32.not_lt.mp c68)).symm.trans rs_⟩⟩) (show 10 - (t + 1) < 10 - t from (by omega)) _ _ _ (hH.eq (congrArg (fun z_ : Nat → Int32 => WM G ad (ua (ua σ 0 (upd (upd (upd (upd (σ 0) 9 (z65 0 9)) 10 (z65 0 10)) 11 (z65 0 11)) 12 (z65 0 12))) 2 z_)) (by exact spT_s _ _ oD _ : (upd (σ 2) (10 + (7 * bj_ + 4)) (oD t)) = (spT (σ 2) (10 + (7 * bj_ + 4)) oD (t + 1))))) (lv_eq (lv_sub hl [2, 3, 4, 5, 1, 0] rfl) (lc_s (lc_s (lc_s (lc_s (lc_s (lc_i (by exact oD_1 _ (by omega) : ((oD t) + (-1)) = (oD (t + 1))) rfl)))))))
    · exact hH.eq (Eq.trans (show WM G ad σ = WM G ad (ua σ 2 (σ 2)) from rfl) (congrArg (fun z_ : Nat → Int32 => WM G ad (ua σ 2 z_)) (by rfl : (σ 2) = (spT (σ 2) (10 + (7 * bj_ + 4)) oD 0))))
    · exact lv_eq (lv_sub hl [4, 5, 3, 2, 1, 0] rfl) (lc_s (lc_s (lc_s (lc_s (lc_s (lc_i (by rfl : 9 = (oD 0)) rfl))))))
  · refine lv_aload_n hx hb dX12_safeOdds_8 rfl (lv_at hl 0 rfl) ?_
    refine lv_iconst (v := (-1)) hx hb dX12_safeOdds_9 (by decide) ?_
    refine x_callVA (ws' := WM G ad (ua σ 1 (upd (σ 1) 1 ((σ 1) 1 + 1)))) (As := [.int (-1)]) (rest := []) (st' := [.int (-1)]) hC hK hZ hA hl.1 hH (k_X12_refuse l G ad σ (-1) 1 rfl (by decide)) lk_X12_47 rfl 0 11 rfl rfl rfl ⟨Nat.le_of_ble_eq_true rfl, Nat.le_of_ble_eq_true rfl⟩ ⟨Nat.le_refl _, Nat.le_refl _⟩ (Nat.le_of_ble_eq_true rfl) rfl dX12_safeOdds_10 (fun H locs hH => ?_)
    exact x_iretE (ua σ 1 (upd (σ 1) 1 ((σ 1) 1 + 1))) hC hr hkL hH (by exact rfAk (cI_f c5) (by decide)) (congrArg (fun z_ : Nat → Int32 => WM G ad (ua σ 1 z_)) (by exact rfzk (cI_f c5) (by decide) : (rfz (σ 1) (hbC b (bK β))) = (upd (σ 1) 1 ((σ 1) 1 + 1)))) dX12_safeOdds_13
