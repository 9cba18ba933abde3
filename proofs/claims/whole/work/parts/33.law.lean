/-! THE LAW: its calls, in pairs -/
theorem ovr_mid : ∀ (new pre old rest : va_W), old.length = new.length → ovr (pre ++ (old ++ rest)) (List.range' pre.length new.length) new = pre ++ (new ++ rest) := by
  intro new
  induction new with
  | nil =>
    intro pre old rest h
    have e : old = [] := List.length_eq_zero_iff.mp h
    subst e; rfl
  | cons q qs ih =>
    intro pre old rest h
    cases old with
    | nil => simp at h
    | cons o os =>
      have e : (pre ++ (o :: os ++ rest)).set pre.length q = (pre ++ [q]) ++ (os ++ rest) := by
        rw [List.set_append_right _ _ (Nat.le_refl _), Nat.sub_self]
        simp
      show ovr ((pre ++ (o :: os ++ rest)).set pre.length q) (List.range' (pre.length + 1) qs.length) qs = _
      rw [e]
      have k := ih (pre ++ [q]) os rest (by simpa using h)
      rw [List.length_append] at k
      have k2 : ovr ((pre ++ [q]) ++ (os ++ rest)) (List.range' (pre.length + 1) qs.length) qs = (pre ++ [q]) ++ (qs ++ rest) := k
      rw [k2]
      simp
section XL
variable {p : Program} {l : Launch} {e : Env} {R : Room} {s : State} {m : MethodId} {args : Array Value} {below : List Frame} {meth : Method} {c : Code} {H : Heap} {locs : List Loc} {cells slots : Nat} {Q : State → Prop}
variable {cc : ByteArray} {pc : Nat} {ls : Array Slot} {G : GP} {A : Nat → Prop} {nL : Nat} {own : String} {y : MethodName} {bytes : ByteArray} {maxL : Nat} {ret : Option FieldType} {d : Nat} {As : List Value} {ov : Option Value} {aC aM : Nat → Nat} {σ τ σ' τ' : Nat → Nat → Int32} {f : (Nat → Nat → Int32) → Nat → Nat → Int32}
theorem lw_cm1 : [0, 1, 2, 3, 4, 5, 6, 7, 8, 9, 10, 11, 12, 13, 14, 15, 16, 17, 18, 19, 20, 21, 22, 23, 24, 25, 26, 27, 28, 29, 30, 31, 32, 33].map (fun i => (WC G aC σ ++ WM G aM τ)[i]?) = (WC G aC σ).map some := rfl
theorem lw_is1 : [0, 1, 2, 3, 4, 5, 6, 7, 8, 9, 10, 11, 12, 13, 14, 15, 16, 17, 18, 19, 20, 21, 22, 23, 24, 25, 26, 27, 28, 29, 30, 31, 32, 33] = List.range' 0 34 := by decide
theorem lw_is2 : [34, 35, 36, 37, 38, 39, 40, 41] = List.range' 34 8 := by decide
theorem lw_ov1 : ovr (WC G aC σ ++ WM G aM τ) [0, 1, 2, 3, 4, 5, 6, 7, 8, 9, 10, 11, 12, 13, 14, 15, 16, 17, 18, 19, 20, 21, 22, 23, 24, 25, 26, 27, 28, 29, 30, 31, 32, 33] (WC G aC σ') = WC G aC σ' ++ WM G aM τ := by
  rw [lw_is1]
  exact ovr_mid (WC G aC σ') [] (WC G aC σ) (WM G aM τ) rfl
theorem lw_cm2 : [34, 35, 36, 37, 38, 39, 40, 41].map (fun i => (WC G aC σ ++ WM G aM τ)[i]?) = (WM G aM τ).map some := rfl
theorem lw_ov2 : ovr (WC G aC σ ++ WM G aM τ) [34, 35, 36, 37, 38, 39, 40, 41] (WM G aM τ') = WC G aC σ ++ WM G aM τ' := by
  rw [lw_is2]
  have h := ovr_mid (WM G aM τ') (WC G aC σ) (WM G aM τ) [] rfl
  rw [List.append_nil, List.append_nil] at h
  exact h
theorem x_lwC {idx n : Nat} {rest st' : List Value} (hC : CallFix p m c cc nL s args BG own) (hK : Kx G s) (hZ : Zx G A s s.heap) (hA : ∀ q, s.heap.size ≤ q → A q) (hl : ls.size = nL) (hH : Hx G A (WC G aC σ ++ WM G aM τ) s.heap H locs) (hM : CT l G y bytes maxL ret d (.ref (aC 0) :: As) (WC G aC σ) ov (WC G aC σ')) (lk : xLV own idx "BetsOnBets" y bytes maxL ret n)
    (hn : As.length = n) (hroom : d + 1 ≤ R.frames ∧ 8 + (maxL + 11) + 40 * d ≤ R.locals) (hcs : cells + 0 ≤ R.cells ∧ slots + 0 ≤ R.slots) (hrest : (rest.map fun v => v.category).sum ≤ 8) (hst : ov.toList ++ rest = st') (hdg : decode cc pc = .ok (.invokevirtual idx, 3))
    (kk : ∀ (H1 : Heap) (locs1 : List Loc), Hx G A (WC G aC σ' ++ WM G aM τ) s.heap H1 locs1 → W p l e R s m args below meth c H1 locs1 cells slots Q (F0 m (pc + 3) ls st')) : W p l e R s m args below meth c H locs cells slots Q (F0 m pc ls (As.reverse ++ .ref (aC 0) :: rest)) :=
  x_callV (ws' := WC G aC σ' ++ WM G aM τ) hC hK hZ hA hl hH hM lk _ lw_cm1 (by decide) lw_ov1 0 10 rfl rfl hn hroom hcs hrest hst hdg kk
theorem x_lwCE {idx n : Nat} {rest st' : List Value} (hC : CallFix p m c cc nL s args BG own) (hK : Kx G s) (hZ : Zx G A s s.heap) (hA : ∀ q, s.heap.size ≤ q → A q) (hl : ls.size = nL) (hH : Hx G A (WC G aC σ ++ WM G aM τ) s.heap H locs) (hM : CTE l G y bytes maxL ret d (.ref (aC 0) :: As) (WC G aC σ) ov (fun z => WC G aC (f z))) (lk : xLV own idx "BetsOnBets" y bytes maxL ret n)
    (hn : As.length = n) (hroom : d + 1 ≤ R.frames ∧ 8 + (maxL + 11) + 40 * d ≤ R.locals) (hcs : cells + 0 ≤ R.cells ∧ slots + 0 ≤ R.slots) (hrest : (rest.map fun v => v.category).sum ≤ 8) (hst : ov.toList ++ rest = st') (hdg : decode cc pc = .ok (.invokevirtual idx, 3))
    (kk : ∀ (z : Nat → Nat → Int32) (H1 : Heap) (locs1 : List Loc), Hx G A (WC G aC (f z) ++ WM G aM τ) s.heap H1 locs1 → W p l e R s m args below meth c H1 locs1 cells slots Q (F0 m (pc + 3) ls st')) : W p l e R s m args below meth c H locs cells slots Q (F0 m pc ls (As.reverse ++ .ref (aC 0) :: rest)) :=
  x_callVE (wg := fun z => WC G aC (f z) ++ WM G aM τ) hC hK hZ hA hl hH hM lk _ lw_cm1 (by decide) (fun _ => lw_ov1) 0 10 rfl rfl hn hroom hcs hrest hst hdg kk
theorem x_lwM {idx n : Nat} {rest st' : List Value} (hC : CallFix p m c cc nL s args BG own) (hK : Kx G s) (hZ : Zx G A s s.heap) (hA : ∀ q, s.heap.size ≤ q → A q) (hl : ls.size = nL) (hH : Hx G A (WC G aC σ ++ WM G aM τ) s.heap H locs) (hM : CT l G y bytes maxL ret d (.ref (aM 0) :: As) (WM G aM τ) ov (WM G aM τ')) (lk : xLV own idx "BetsOnBetsModel" y bytes maxL ret n)
    (hn : As.length = n) (hroom : d + 1 ≤ R.frames ∧ 8 + (maxL + 11) + 40 * d ≤ R.locals) (hcs : cells + 0 ≤ R.cells ∧ slots + 0 ≤ R.slots) (hrest : (rest.map fun v => v.category).sum ≤ 8) (hst : ov.toList ++ rest = st') (hdg : decode cc pc = .ok (.invokevirtual idx, 3))
    (kk : ∀ (H1 : Heap) (locs1 : List Loc), Hx G A (WC G aC σ ++ WM G aM τ') s.heap H1 locs1 → W p l e R s m args below meth c H1 locs1 cells slots Q (F0 m (pc + 3) ls st')) : W p l e R s m args below meth c H locs cells slots Q (F0 m pc ls (As.reverse ++ .ref (aM 0) :: rest)) :=
  x_callV (ws' := WC G aC σ ++ WM G aM τ') hC hK hZ hA hl hH hM lk _ lw_cm2 (by decide) lw_ov2 34 11 rfl rfl hn hroom hcs hrest hst hdg kk
theorem x_lwME {idx n : Nat} {rest st' : List Value} (hC : CallFix p m c cc nL s args BG own) (hK : Kx G s) (hZ : Zx G A s s.heap) (hA : ∀ q, s.heap.size ≤ q → A q) (hl : ls.size = nL) (hH : Hx G A (WC G aC σ ++ WM G aM τ) s.heap H locs) (hM : CTE l G y bytes maxL ret d (.ref (aM 0) :: As) (WM G aM τ) ov (fun z => WM G aM (f z))) (lk : xLV own idx "BetsOnBetsModel" y bytes maxL ret n)
    (hn : As.length = n) (hroom : d + 1 ≤ R.frames ∧ 8 + (maxL + 11) + 40 * d ≤ R.locals) (hcs : cells + 0 ≤ R.cells ∧ slots + 0 ≤ R.slots) (hrest : (rest.map fun v => v.category).sum ≤ 8) (hst : ov.toList ++ rest = st') (hdg : decode cc pc = .ok (.invokevirtual idx, 3))
    (kk : ∀ (z : Nat → Nat → Int32) (H1 : Heap) (locs1 : List Loc), Hx G A (WC G aC σ ++ WM G aM (f z)) s.heap H1 locs1 → W p l e R s m args below meth c H1 locs1 cells slots Q (F0 m (pc + 3) ls st')) : W p l e R s m args below meth c H locs cells slots Q (F0 m pc ls (As.reverse ++ .ref (aM 0) :: rest)) :=
  x_callVE (wg := fun z => WC G aC σ ++ WM G aM (f z)) hC hK hZ hA hl hH hM lk _ lw_cm2 (by decide) (fun _ => lw_ov2) 34 11 rfl rfl hn hroom hcs hrest hst hdg kk
/-- a number of the script -/
theorem x_sld {b L j : Nat} {ws : va_W} {xs : Nat → Int32} {i : Int32} {rest : List Value} (hC : CallFix p m c cc nL s args BG own) (hX : va_X b L xs s s.heap) (hbl : b < s.heap.size) (hbA : ¬ A b) (hH : Hx G A ws s.heap H locs) (hi : i = nI j) (hj : j < L) (hL : L ≤ 2048) (hdg : decode cc pc = .ok (.iaload, 1))
    (kk : W p l e R s m args below meth c H locs cells slots Q (F0 m (pc + 1) ls (.int (xs j) :: rest))) : W p l e R s m args below meth c H locs cells slots Q (F0 m pc ls (.int i :: .ref b :: rest)) := by
  subst hi
  refine va_sld hC.1 hC.2.1 hX hbl hbA hH.2.2 (vp_in_nI hj (by omega)) hdg ?_
  rw [nI_clamp (by omega)]
  exact kk
end XL
theorem lw_le {i L : Nat} (hi : i ≤ 4096) (hL : L ≤ 2048) (h : ¬ nI L - 4 < nI i) : i + 4 ≤ L := by
  rw [Int32.lt_iff_toInt_lt, show nI L - 4 = nI L - nI 4 from rfl, pk_sub_toInt (by omega) (by omega), nI_tI (by omega)] at h
  omega
theorem lw_31 (x : Int32) : ∃ r, r < 32 ∧ x &&& 31 = nI r := by
  have h0 : ¬ (x &&& 31) < 0 ∧ (x &&& 31) ≤ 31 := by
    have k : ∀ y : BitVec 32, ¬ (y &&& 31#32).slt 0#32 = true ∧ (y &&& 31#32).sle 31#32 = true := by
      intro y
      have e : (y &&& 31#32).toNat = y.toNat % 32 := by
        rw [BitVec.toNat_and]
        exact Nat.and_two_pow_sub_one_eq_mod y.toNat 5
      have lt : (y &&& 31#32).toNat < 32 := by rw [e]; exact Nat.mod_lt _ (by decide)
      have ti : (y &&& 31#32).toInt = ((y &&& 31#32).toNat : Int) := by
        rw [BitVec.toInt_eq_toNat_cond, if_pos (by omega)]
      have z0 : (0#32).toInt = 0 := by decide
      have z31 : (31#32).toInt = 31 := by decide
      constructor
      · intro h
        simp only [BitVec.slt, decide_eq_true_eq] at h
        rw [ti, z0] at h
        omega
      · simp only [BitVec.sle, decide_eq_true_eq]
        rw [ti, z31]
        omega
    exact ⟨(k x.toBitVec).1, (k x.toBitVec).2⟩
  obtain ⟨r, hr, e⟩ := nI_of2 (M := 31) (n := 31) rfl h0.1 h0.2
  exact ⟨r, by omega, e⟩
theorem ifz_g {c : Nat} {g r : Nat → Int32} (h : g 0 = r 0) : ifz c g r 0 = r 0 := by
  unfold ifz
  split
  · exact h
  · rfl

section XLC
variable {p : Program} {l : Launch} {e : Env} {R : Room} {s : State} {m : MethodId} {args : Array Value} {below : List Frame} {meth : Method} {c : Code} {H : Heap} {locs : List Loc} {cells slots : Nat} {Q : State → Prop}
variable {ls : Array Slot} {G : GP} {A : Nat → Prop} {aC aM : Nat → Nat} {σ τ : Nat → Nat → Int32} {b L i : Nat} {xs : Nat → Int32}
set_option maxHeartbeats 4000000 in
set_option maxRecDepth 100000 in
theorem lwc_0 (hC : CallFix p m c cL_law 4 s args BG "BetsOnBetsLaw") (hK : Kx G s) (hZ : Zx G A s s.heap) (hA : ∀ q, s.heap.size ≤ q → A q) (hX : va_X b L xs s s.heap) (hbl : b < s.heap.size) (hbA : ¬ A b) (hL : L ≤ 2048) (hi : i + 4 ≤ L) (hRf : 12 ≤ R.frames) (hRl : 700 ≤ R.locals) (hRc : cells ≤ R.cells) (hRs : slots ≤ R.slots) (hI : INV σ τ) (hH : Hx G A (WC G aC σ ++ WM G aM τ) s.heap H locs) (hl : lv_has ls 4 [(0, .ref b), (1, .ref (aC 0)), (2, .ref (aM 0)), (3, .int (nI i))])
    (kk : ∀ (σ' τ' : Nat → Nat → Int32) (H : Heap) (locs : List Loc) (ls : Array Slot), INV σ' τ' → Hx G A (WC G aC σ' ++ WM G aM τ') s.heap H locs → lv_has ls 4 [(0, .ref b), (1, .ref (aC 0)), (2, .ref (aM 0)), (3, .int (nI i))] → W p l e R s m args below meth c H locs cells slots Q (F0 m 854 ls [])) : W p l e R s m args below meth c H locs cells slots Q (F0 m 160 ls []) := by
  have hx := hC.1
  have hb := hC.2.1
  obtain ⟨h, k, h2, k2, n, z, iB, iK, iL, iR, iX⟩ := id hI
  refine lv_aload_n hx hb dL_law_160 rfl (lv_at hl 1 rfl) ?_
  refine lv_aload_n hx hb dL_law_161 rfl (lv_at hl 0 rfl) ?_
  refine lv_iload_n hx hb dL_law_162 rfl (lv_at hl 3 rfl) ?_
  refine lv_iconst (v := 1) hx hb dL_law_163 (by decide) ?_
  refine lv_iadd hx hb dL_law_164 ?_
  refine x_sld (j := i + 1) hC hX hbl hbA hH (nI_add i 1) (by omega) hL dL_law_165 ?_
  refine x_lwC (As := [.int (xs (i + 1))]) (rest := []) hC hK hZ hA hl.1 hH (k_X11_letter l G aC σ (xs (i + 1)) n iL.1 iL.2.2.1) lk_L_13 rfl ⟨by omega, by omega⟩ ⟨by omega, by omega⟩ (Nat.le_of_ble_eq_true rfl) rfl dL_law_166 (fun H locs hH => ?_)
  refine lv_aload_n hx hb dL_law_169 rfl (lv_at hl 2 rfl) ?_
  refine lv_aload_n hx hb dL_law_170 rfl (lv_at hl 0 rfl) ?_
  refine lv_iload_n hx hb dL_law_171 rfl (lv_at hl 3 rfl) ?_
  refine lv_iconst (v := 1) hx hb dL_law_172 (by decide) ?_
  refine lv_iadd hx hb dL_law_173 ?_
  refine x_sld (j := i + 1) hC hX hbl hbA hH (nI_add i 1) (by omega) hL dL_law_174 ?_
  refine x_lwM (As := [.int (xs (i + 1))]) (rest := [.int _]) hC hK hZ hA hl.1 hH (k_X12_letter l G aM τ (xs (i + 1)) n iL.2.1 iL.2.2.1) lk_L_17 rfl ⟨by omega, by omega⟩ ⟨by omega, by omega⟩ (Nat.le_of_ble_eq_true rfl) rfl dL_law_175 (fun H locs hH => ?_)
  refine lv_icmp_eq (tgt := 854) hx hb dL_law_178 (by decide) (fun c_ => ?_) (fun c_ => absurd rfl c_)
  exact kk _ _ _ _ _ (inv_letter iB iK iL iR iX _) hH hl
set_option maxHeartbeats 4000000 in
set_option maxRecDepth 100000 in
theorem lwc_1 (hC : CallFix p m c cL_law 4 s args BG "BetsOnBetsLaw") (hK : Kx G s) (hZ : Zx G A s s.heap) (hA : ∀ q, s.heap.size ≤ q → A q) (hX : va_X b L xs s s.heap) (hbl : b < s.heap.size) (hbA : ¬ A b) (hL : L ≤ 2048) (hi : i + 4 ≤ L) (hRf : 12 ≤ R.frames) (hRl : 700 ≤ R.locals) (hRc : cells ≤ R.cells) (hRs : slots ≤ R.slots) (hI : INV σ τ) (hH : Hx G A (WC G aC σ ++ WM G aM τ) s.heap H locs) (hl : lv_has ls 4 [(0, .ref b), (1, .ref (aC 0)), (2, .ref (aM 0)), (3, .int (nI i))])
    (kk : ∀ (σ' τ' : Nat → Nat → Int32) (H : Heap) (locs : List Loc) (ls : Array Slot), INV σ' τ' → Hx G A (WC G aC σ' ++ WM G aM τ') s.heap H locs → lv_has ls 4 [(0, .ref b), (1, .ref (aC 0)), (2, .ref (aM 0)), (3, .int (nI i))] → W p l e R s m args below meth c H locs cells slots Q (F0 m 854 ls [])) : W p l e R s m args below meth c H locs cells slots Q (F0 m 183 ls []) := by
  have hx := hC.1
  have hb := hC.2.1
  obtain ⟨h, k, h2, k2, n, z, iB, iK, iL, iR, iX⟩ := id hI
  refine lv_aload_n hx hb dL_law_183 rfl (lv_at hl 1 rfl) ?_
  refine x_lwCE (As := []) (rest := []) hC hK hZ hA hl.1 hH (k_X11_inn l G aC σ h k n (τ 6) (τ 2) iB.1 iB.2.1 iB.2.2.1.1 iB.2.2.1.2.1 iB.2.2.1.2.2.1 iL.1 iL.2.2.1 iL.2.2.2.2) lk_L_18 rfl ⟨by omega, by omega⟩ ⟨by omega, by omega⟩ (Nat.le_of_ble_eq_true rfl) rfl dL_law_184 (fun zX11 H locs hH => ?_)
  refine lv_aload_n hx hb dL_law_187 rfl (lv_at hl 2 rfl) ?_
  refine x_lwME (As := []) (rest := [.int _]) hC hK hZ hA hl.1 hH (k_X12_inn l G aM τ n (bk h k (σ 8) (σ 9) (σ 10)) iL.2.1 iL.2.2.1 iB.2.2.2.1) lk_L_22 rfl ⟨by omega, by omega⟩ ⟨by omega, by omega⟩ (Nat.le_of_ble_eq_true rfl) rfl dL_law_188 (fun zX12 H locs hH => ?_)
  refine lv_icmp_eq (tgt := 854) hx hb dL_law_191 (by decide) (fun c_ => ?_) (fun c_ => absurd (by rw [show σ 2 = τ 5 from iL.2.2.2.1]) c_)
  exact kk _ _ _ _ _ (inv_inn iB iK iL iR iX _ _) hH hl
set_option maxHeartbeats 4000000 in
set_option maxRecDepth 100000 in
theorem lwc_2 (hC : CallFix p m c cL_law 4 s args BG "BetsOnBetsLaw") (hK : Kx G s) (hZ : Zx G A s s.heap) (hA : ∀ q, s.heap.size ≤ q → A q) (hX : va_X b L xs s s.heap) (hbl : b < s.heap.size) (hbA : ¬ A b) (hL : L ≤ 2048) (hi : i + 4 ≤ L) (hRf : 12 ≤ R.frames) (hRl : 700 ≤ R.locals) (hRc : cells ≤ R.cells) (hRs : slots ≤ R.slots) (hI : INV σ τ) (hH : Hx G A (WC G aC σ ++ WM G aM τ) s.heap H locs) (hl : lv_has ls 4 [(0, .ref b), (1, .ref (aC 0)), (2, .ref (aM 0)), (3, .int (nI i))])
    (kk : ∀ (σ' τ' : Nat → Nat → Int32) (H : Heap) (locs : List Loc) (ls : Array Slot), INV σ' τ' → Hx G A (WC G aC σ' ++ WM G aM τ') s.heap H locs → lv_has ls 4 [(0, .ref b), (1, .ref (aC 0)), (2, .ref (aM 0)), (3, .int (nI i))] → W p l e R s m args below meth c H locs cells slots Q (F0 m 854 ls [])) : W p l e R s m args below meth c H locs cells slots Q (F0 m 196 ls []) := by
  have hx := hC.1
  have hb := hC.2.1
  obtain ⟨h, k, h2, k2, n, z, iB, iK, iL, iR, iX⟩ := id hI
  refine lv_aload_n hx hb dL_law_196 rfl (lv_at hl 1 rfl) ?_
  refine lv_aload_n hx hb dL_law_197 rfl (lv_at hl 0 rfl) ?_
  refine lv_iload_n hx hb dL_law_198 rfl (lv_at hl 3 rfl) ?_
  refine lv_iconst (v := 1) hx hb dL_law_199 (by decide) ?_
  refine lv_iadd hx hb dL_law_200 ?_
  refine x_sld (j := i + 1) hC hX hbl hbA hH (nI_add i 1) (by omega) hL dL_law_201 ?_
  refine x_lwC (As := [.int (xs (i + 1))]) (rest := []) hC hK hZ hA hl.1 hH (k_X11_chance l G aC σ (xs (i + 1)) h k iB.1 iB.2.1 iB.2.2.1.1 iB.2.2.1.2.1) lk_L_23 rfl ⟨by omega, by omega⟩ ⟨by omega, by omega⟩ (Nat.le_of_ble_eq_true rfl) rfl dL_law_202 (fun H locs hH => ?_)
  refine lv_aload_n hx hb dL_law_205 rfl (lv_at hl 2 rfl) ?_
  refine lv_aload_n hx hb dL_law_206 rfl (lv_at hl 0 rfl) ?_
  refine lv_iload_n hx hb dL_law_207 rfl (lv_at hl 3 rfl) ?_
  refine lv_iconst (v := 1) hx hb dL_law_208 (by decide) ?_
  refine lv_iadd hx hb dL_law_209 ?_
  refine x_sld (j := i + 1) hC hX hbl hbA hH (nI_add i 1) (by omega) hL dL_law_210 ?_
  refine x_lwM (As := [.int (xs (i + 1))]) (rest := [.int _]) hC hK hZ hA hl.1 hH (k_X12_chance l G aM τ (xs (i + 1)) (bk h k (σ 8) (σ 9) (σ 10)) iB.2.2.2.1) lk_L_26 rfl ⟨by omega, by omega⟩ ⟨by omega, by omega⟩ (Nat.le_of_ble_eq_true rfl) rfl dL_law_211 (fun H locs hH => ?_)
  refine lv_icmp_eq (tgt := 854) hx hb dL_law_214 (by decide) (fun c_ => ?_) (fun c_ => absurd rfl c_)
  exact kk _ _ _ _ _ (inv_aa _ hI) hH hl
set_option maxHeartbeats 4000000 in
set_option maxRecDepth 100000 in
theorem lwc_3 (hC : CallFix p m c cL_law 4 s args BG "BetsOnBetsLaw") (hK : Kx G s) (hZ : Zx G A s s.heap) (hA : ∀ q, s.heap.size ≤ q → A q) (hX : va_X b L xs s s.heap) (hbl : b < s.heap.size) (hbA : ¬ A b) (hL : L ≤ 2048) (hi : i + 4 ≤ L) (hRf : 12 ≤ R.frames) (hRl : 700 ≤ R.locals) (hRc : cells ≤ R.cells) (hRs : slots ≤ R.slots) (hI : INV σ τ) (hH : Hx G A (WC G aC σ ++ WM G aM τ) s.heap H locs) (hl : lv_has ls 4 [(0, .ref b), (1, .ref (aC 0)), (2, .ref (aM 0)), (3, .int (nI i))])
    (kk : ∀ (σ' τ' : Nat → Nat → Int32) (H : Heap) (locs : List Loc) (ls : Array Slot), INV σ' τ' → Hx G A (WC G aC σ' ++ WM G aM τ') s.heap H locs → lv_has ls 4 [(0, .ref b), (1, .ref (aC 0)), (2, .ref (aM 0)), (3, .int (nI i))] → W p l e R s m args below meth c H locs cells slots Q (F0 m 854 ls [])) : W p l e R s m args below meth c H locs cells slots Q (F0 m 219 ls []) := by
  have hx := hC.1
  have hb := hC.2.1
  obtain ⟨h, k, h2, k2, n, z, iB, iK, iL, iR, iX⟩ := id hI
  refine lv_aload_n hx hb dL_law_219 rfl (lv_at hl 1 rfl) ?_
  refine lv_aload_n hx hb dL_law_220 rfl (lv_at hl 0 rfl) ?_
  refine lv_iload_n hx hb dL_law_221 rfl (lv_at hl 3 rfl) ?_
  refine lv_iconst (v := 1) hx hb dL_law_222 (by decide) ?_
  refine lv_iadd hx hb dL_law_223 ?_
  refine x_sld (j := i + 1) hC hX hbl hbA hH (nI_add i 1) (by omega) hL dL_law_224 ?_
  refine lv_aload_n hx hb dL_law_225 rfl (lv_at hl 0 rfl) ?_
  refine lv_iload_n hx hb dL_law_226 rfl (lv_at hl 3 rfl) ?_
  refine lv_iconst (v := 2) hx hb dL_law_227 (by decide) ?_
  refine lv_iadd hx hb dL_law_228 ?_
  refine x_sld (j := i + 2) hC hX hbl hbA hH (nI_add i 2) (by omega) hL dL_law_229 ?_
  refine x_lwC (As := [.int (xs (i + 1)), .int (xs (i + 2))]) (rest := []) hC hK hZ hA hl.1 hH (k_X11_bet l G aC σ (xs (i + 1)) (xs (i + 2)) h k iB.1 iB.2.1 iB.2.2.1.1 iB.2.2.1.2.1) lk_L_27 rfl ⟨by omega, by omega⟩ ⟨by omega, by omega⟩ (Nat.le_of_ble_eq_true rfl) rfl dL_law_230 (fun H locs hH => ?_)
  refine lv_aload_n hx hb dL_law_233 rfl (lv_at hl 2 rfl) ?_
  refine lv_aload_n hx hb dL_law_234 rfl (lv_at hl 0 rfl) ?_
  refine lv_iload_n hx hb dL_law_235 rfl (lv_at hl 3 rfl) ?_
  refine lv_iconst (v := 1) hx hb dL_law_236 (by decide) ?_
  refine lv_iadd hx hb dL_law_237 ?_
  refine x_sld (j := i + 1) hC hX hbl hbA hH (nI_add i 1) (by omega) hL dL_law_238 ?_
  refine lv_aload_n hx hb dL_law_239 rfl (lv_at hl 0 rfl) ?_
  refine lv_iload_n hx hb dL_law_240 rfl (lv_at hl 3 rfl) ?_
  refine lv_iconst (v := 2) hx hb dL_law_241 (by decide) ?_
  refine lv_iadd hx hb dL_law_242 ?_
  refine x_sld (j := i + 2) hC hX hbl hbA hH (nI_add i 2) (by omega) hL dL_law_243 ?_
  refine x_lwM (As := [.int (xs (i + 1)), .int (xs (i + 2))]) (rest := [.int _]) hC hK hZ hA hl.1 hH (k_X12_bet l G aM τ (xs (i + 1)) (xs (i + 2)) (bk h k (σ 8) (σ 9) (σ 10)) iB.2.2.2.1) lk_L_31 rfl ⟨by omega, by omega⟩ ⟨by omega, by omega⟩ (Nat.le_of_ble_eq_true rfl) rfl dL_law_244 (fun H locs hH => ?_)
  refine lv_icmp_eq (tgt := 854) hx hb dL_law_247 (by decide) (fun c_ => ?_) (fun c_ => absurd rfl c_)
  exact kk _ _ _ _ _ (inv_aa _ hI) hH hl
set_option maxHeartbeats 4000000 in
set_option maxRecDepth 100000 in
theorem lwc_4 (hC : CallFix p m c cL_law 4 s args BG "BetsOnBetsLaw") (hK : Kx G s) (hZ : Zx G A s s.heap) (hA : ∀ q, s.heap.size ≤ q → A q) (hX : va_X b L xs s s.heap) (hbl : b < s.heap.size) (hbA : ¬ A b) (hL : L ≤ 2048) (hi : i + 4 ≤ L) (hRf : 12 ≤ R.frames) (hRl : 700 ≤ R.locals) (hRc : cells ≤ R.cells) (hRs : slots ≤ R.slots) (hI : INV σ τ) (hH : Hx G A (WC G aC σ ++ WM G aM τ) s.heap H locs) (hl : lv_has ls 4 [(0, .ref b), (1, .ref (aC 0)), (2, .ref (aM 0)), (3, .int (nI i))])
    (kk : ∀ (σ' τ' : Nat → Nat → Int32) (H : Heap) (locs : List Loc) (ls : Array Slot), INV σ' τ' → Hx G A (WC G aC σ' ++ WM G aM τ') s.heap H locs → lv_has ls 4 [(0, .ref b), (1, .ref (aC 0)), (2, .ref (aM 0)), (3, .int (nI i))] → W p l e R s m args below meth c H locs cells slots Q (F0 m 854 ls [])) : W p l e R s m args below meth c H locs cells slots Q (F0 m 252 ls []) := by
  have hx := hC.1
  have hb := hC.2.1
  obtain ⟨h, k, h2, k2, n, z, iB, iK, iL, iR, iX⟩ := id hI
  refine lv_aload_n hx hb dL_law_252 rfl (lv_at hl 1 rfl) ?_
  refine lv_aload_n hx hb dL_law_253 rfl (lv_at hl 0 rfl) ?_
  refine lv_iload_n hx hb dL_law_254 rfl (lv_at hl 3 rfl) ?_
  refine lv_iconst (v := 1) hx hb dL_law_255 (by decide) ?_
  refine lv_iadd hx hb dL_law_256 ?_
  refine x_sld (j := i + 1) hC hX hbl hbA hH (nI_add i 1) (by omega) hL dL_law_257 ?_
  refine lv_aload_n hx hb dL_law_258 rfl (lv_at hl 0 rfl) ?_
  refine lv_iload_n hx hb dL_law_259 rfl (lv_at hl 3 rfl) ?_
  refine lv_iconst (v := 2) hx hb dL_law_260 (by decide) ?_
  refine lv_iadd hx hb dL_law_261 ?_
  refine x_sld (j := i + 2) hC hX hbl hbA hH (nI_add i 2) (by omega) hL dL_law_262 ?_
  refine lv_aload_n hx hb dL_law_263 rfl (lv_at hl 0 rfl) ?_
  refine lv_iload_n hx hb dL_law_264 rfl (lv_at hl 3 rfl) ?_
  refine lv_iconst (v := 3) hx hb dL_law_265 (by decide) ?_
  refine lv_iadd hx hb dL_law_266 ?_
  refine x_sld (j := i + 3) hC hX hbl hbA hH (nI_add i 3) (by omega) hL dL_law_267 ?_
  refine x_lwC (As := [.int (xs (i + 1)), .int (xs (i + 2)), .int (xs (i + 3))]) (rest := []) hC hK hZ hA hl.1 hH (k_X11_set l G aC σ (xs (i + 1)) (xs (i + 2)) (xs (i + 3)) h k iB.1 iB.2.1 iB.2.2.1.1 iB.2.2.1.2.1) lk_L_32 rfl ⟨by omega, by omega⟩ ⟨by omega, by omega⟩ (Nat.le_of_ble_eq_true rfl) rfl dL_law_268 (fun H locs hH => ?_)
  refine lv_aload_n hx hb dL_law_271 rfl (lv_at hl 2 rfl) ?_
  refine lv_aload_n hx hb dL_law_272 rfl (lv_at hl 0 rfl) ?_
  refine lv_iload_n hx hb dL_law_273 rfl (lv_at hl 3 rfl) ?_
  refine lv_iconst (v := 1) hx hb dL_law_274 (by decide) ?_
  refine lv_iadd hx hb dL_law_275 ?_
  refine x_sld (j := i + 1) hC hX hbl hbA hH (nI_add i 1) (by omega) hL dL_law_276 ?_
  refine lv_aload_n hx hb dL_law_277 rfl (lv_at hl 0 rfl) ?_
  refine lv_iload_n hx hb dL_law_278 rfl (lv_at hl 3 rfl) ?_
  refine lv_iconst (v := 2) hx hb dL_law_279 (by decide) ?_
  refine lv_iadd hx hb dL_law_280 ?_
  refine x_sld (j := i + 2) hC hX hbl hbA hH (nI_add i 2) (by omega) hL dL_law_281 ?_
  refine lv_aload_n hx hb dL_law_282 rfl (lv_at hl 0 rfl) ?_
  refine lv_iload_n hx hb dL_law_283 rfl (lv_at hl 3 rfl) ?_
  refine lv_iconst (v := 3) hx hb dL_law_284 (by decide) ?_
  refine lv_iadd hx hb dL_law_285 ?_
  refine x_sld (j := i + 3) hC hX hbl hbA hH (nI_add i 3) (by omega) hL dL_law_286 ?_
  refine x_lwM (As := [.int (xs (i + 1)), .int (xs (i + 2)), .int (xs (i + 3))]) (rest := [.int _]) hC hK hZ hA hl.1 hH (k_X12_set l G aM τ (xs (i + 1)) (xs (i + 2)) (xs (i + 3)) (bk h k (σ 8) (σ 9) (σ 10)) iB.2.2.2.1) lk_L_36 rfl ⟨by omega, by omega⟩ ⟨by omega, by omega⟩ (Nat.le_of_ble_eq_true rfl) rfl dL_law_287 (fun H locs hH => ?_)
  refine lv_icmp_eq (tgt := 854) hx hb dL_law_290 (by decide) (fun c_ => ?_) (fun c_ => absurd rfl c_)
  exact kk _ _ _ _ _ (inv_set iB iK iL iR iX _ _ _) hH hl
set_option maxHeartbeats 4000000 in
set_option maxRecDepth 100000 in
theorem lwc_5 (hC : CallFix p m c cL_law 4 s args BG "BetsOnBetsLaw") (hK : Kx G s) (hZ : Zx G A s s.heap) (hA : ∀ q, s.heap.size ≤ q → A q) (hX : va_X b L xs s s.heap) (hbl : b < s.heap.size) (hbA : ¬ A b) (hL : L ≤ 2048) (hi : i + 4 ≤ L) (hRf : 12 ≤ R.frames) (hRl : 700 ≤ R.locals) (hRc : cells ≤ R.cells) (hRs : slots ≤ R.slots) (hI : INV σ τ) (hH : Hx G A (WC G aC σ ++ WM G aM τ) s.heap H locs) (hl : lv_has ls 4 [(0, .ref b), (1, .ref (aC 0)), (2, .ref (aM 0)), (3, .int (nI i))])
    (kk : ∀ (σ' τ' : Nat → Nat → Int32) (H : Heap) (locs : List Loc) (ls : Array Slot), INV σ' τ' → Hx G A (WC G aC σ' ++ WM G aM τ') s.heap H locs → lv_has ls 4 [(0, .ref b), (1, .ref (aC 0)), (2, .ref (aM 0)), (3, .int (nI i))] → W p l e R s m args below meth c H locs cells slots Q (F0 m 854 ls [])) : W p l e R s m args below meth c H locs cells slots Q (F0 m 295 ls []) := by
  have hx := hC.1
  have hb := hC.2.1
  obtain ⟨h, k, h2, k2, n, z, iB, iK, iL, iR, iX⟩ := id hI
  refine lv_aload_n hx hb dL_law_295 rfl (lv_at hl 1 rfl) ?_
  refine lv_aload_n hx hb dL_law_296 rfl (lv_at hl 0 rfl) ?_
  refine lv_iload_n hx hb dL_law_297 rfl (lv_at hl 3 rfl) ?_
  refine lv_iconst (v := 1) hx hb dL_law_298 (by decide) ?_
  refine lv_iadd hx hb dL_law_299 ?_
  refine x_sld (j := i + 1) hC hX hbl hbA hH (nI_add i 1) (by omega) hL dL_law_300 ?_
  refine lv_aload_n hx hb dL_law_301 rfl (lv_at hl 0 rfl) ?_
  refine lv_iload_n hx hb dL_law_302 rfl (lv_at hl 3 rfl) ?_
  refine lv_iconst (v := 2) hx hb dL_law_303 (by decide) ?_
  refine lv_iadd hx hb dL_law_304 ?_
  refine x_sld (j := i + 2) hC hX hbl hbA hH (nI_add i 2) (by omega) hL dL_law_305 ?_
  refine x_lwC (As := [.int (xs (i + 1)), .int (xs (i + 2))]) (rest := []) hC hK hZ hA hl.1 hH (k_X11_fund l G aC σ (xs (i + 1)) (xs (i + 2)) h k iB.1 iB.2.1 iB.2.2.1.1 iB.2.2.1.2.1) lk_L_37 rfl ⟨by omega, by omega⟩ ⟨by omega, by omega⟩ (Nat.le_of_ble_eq_true rfl) rfl dL_law_306 (fun H locs hH => ?_)
  refine lv_aload_n hx hb dL_law_309 rfl (lv_at hl 2 rfl) ?_
  refine lv_aload_n hx hb dL_law_310 rfl (lv_at hl 0 rfl) ?_
  refine lv_iload_n hx hb dL_law_311 rfl (lv_at hl 3 rfl) ?_
  refine lv_iconst (v := 1) hx hb dL_law_312 (by decide) ?_
  refine lv_iadd hx hb dL_law_313 ?_
  refine x_sld (j := i + 1) hC hX hbl hbA hH (nI_add i 1) (by omega) hL dL_law_314 ?_
  refine lv_aload_n hx hb dL_law_315 rfl (lv_at hl 0 rfl) ?_
  refine lv_iload_n hx hb dL_law_316 rfl (lv_at hl 3 rfl) ?_
  refine lv_iconst (v := 2) hx hb dL_law_317 (by decide) ?_
  refine lv_iadd hx hb dL_law_318 ?_
  refine x_sld (j := i + 2) hC hX hbl hbA hH (nI_add i 2) (by omega) hL dL_law_319 ?_
  refine x_lwM (As := [.int (xs (i + 1)), .int (xs (i + 2))]) (rest := [.int _]) hC hK hZ hA hl.1 hH (k_X12_fund l G aM τ (xs (i + 1)) (xs (i + 2)) (bk h k (σ 8) (σ 9) (σ 10)) iB.2.2.2.1) lk_L_40 rfl ⟨by omega, by omega⟩ ⟨by omega, by omega⟩ (Nat.le_of_ble_eq_true rfl) rfl dL_law_320 (fun H locs hH => ?_)
  refine lv_icmp_eq (tgt := 854) hx hb dL_law_323 (by decide) (fun c_ => ?_) (fun c_ => absurd rfl c_)
  exact kk _ _ _ _ _ (inv_fund iB iK iL iR iX _ _) hH hl
set_option maxHeartbeats 4000000 in
set_option maxRecDepth 100000 in
theorem lwc_6 (hC : CallFix p m c cL_law 4 s args BG "BetsOnBetsLaw") (hK : Kx G s) (hZ : Zx G A s s.heap) (hA : ∀ q, s.heap.size ≤ q → A q) (hX : va_X b L xs s s.heap) (hbl : b < s.heap.size) (hbA : ¬ A b) (hL : L ≤ 2048) (hi : i + 4 ≤ L) (hRf : 12 ≤ R.frames) (hRl : 700 ≤ R.locals) (hRc : cells ≤ R.cells) (hRs : slots ≤ R.slots) (hI : INV σ τ) (hH : Hx G A (WC G aC σ ++ WM G aM τ) s.heap H locs) (hl : lv_has ls 4 [(0, .ref b), (1, .ref (aC 0)), (2, .ref (aM 0)), (3, .int (nI i))])
    (kk : ∀ (σ' τ' : Nat → Nat → Int32) (H : Heap) (locs : List Loc) (ls : Array Slot), INV σ' τ' → Hx G A (WC G aC σ' ++ WM G aM τ') s.heap H locs → lv_has ls 4 [(0, .ref b), (1, .ref (aC 0)), (2, .ref (aM 0)), (3, .int (nI i))] → W p l e R s m args below meth c H locs cells slots Q (F0 m 854 ls [])) : W p l e R s m args below meth c H locs cells slots Q (F0 m 328 ls []) := by
  have hx := hC.1
  have hb := hC.2.1
  obtain ⟨h, k, h2, k2, n, z, iB, iK, iL, iR, iX⟩ := id hI
  refine lv_aload_n hx hb dL_law_328 rfl (lv_at hl 1 rfl) ?_
  refine lv_aload_n hx hb dL_law_329 rfl (lv_at hl 0 rfl) ?_
  refine lv_iload_n hx hb dL_law_330 rfl (lv_at hl 3 rfl) ?_
  refine lv_iconst (v := 1) hx hb dL_law_331 (by decide) ?_
  refine lv_iadd hx hb dL_law_332 ?_
  refine x_sld (j := i + 1) hC hX hbl hbA hH (nI_add i 1) (by omega) hL dL_law_333 ?_
  refine lv_aload_n hx hb dL_law_334 rfl (lv_at hl 0 rfl) ?_
  refine lv_iload_n hx hb dL_law_335 rfl (lv_at hl 3 rfl) ?_
  refine lv_iconst (v := 2) hx hb dL_law_336 (by decide) ?_
  refine lv_iadd hx hb dL_law_337 ?_
  refine x_sld (j := i + 2) hC hX hbl hbA hH (nI_add i 2) (by omega) hL dL_law_338 ?_
  refine x_lwC (As := [.int (xs (i + 1)), .int (xs (i + 2))]) (rest := []) hC hK hZ hA hl.1 hH (k_X11_ways l G aC σ (xs (i + 1)) (xs (i + 2)) h k iB.1 iB.2.1 iB.2.2.1.1 iB.2.2.1.2.1 iB.2.2.2.2) lk_L_41 rfl ⟨by omega, by omega⟩ ⟨by omega, by omega⟩ (Nat.le_of_ble_eq_true rfl) rfl dL_law_339 (fun H locs hH => ?_)
  refine lv_aload_n hx hb dL_law_342 rfl (lv_at hl 2 rfl) ?_
  refine lv_aload_n hx hb dL_law_343 rfl (lv_at hl 0 rfl) ?_
  refine lv_iload_n hx hb dL_law_344 rfl (lv_at hl 3 rfl) ?_
  refine lv_iconst (v := 1) hx hb dL_law_345 (by decide) ?_
  refine lv_iadd hx hb dL_law_346 ?_
  refine x_sld (j := i + 1) hC hX hbl hbA hH (nI_add i 1) (by omega) hL dL_law_347 ?_
  refine lv_aload_n hx hb dL_law_348 rfl (lv_at hl 0 rfl) ?_
  refine lv_iload_n hx hb dL_law_349 rfl (lv_at hl 3 rfl) ?_
  refine lv_iconst (v := 2) hx hb dL_law_350 (by decide) ?_
  refine lv_iadd hx hb dL_law_351 ?_
  refine x_sld (j := i + 2) hC hX hbl hbA hH (nI_add i 2) (by omega) hL dL_law_352 ?_
  refine x_lwME (As := [.int (xs (i + 1)), .int (xs (i + 2))]) (rest := [.int _]) hC hK hZ hA hl.1 hH (k_X12_ways l G aM τ (xs (i + 1)) (xs (i + 2)) (bk h k (σ 8) (σ 9) (σ 10)) iB.2.2.2.1) lk_L_44 rfl ⟨by omega, by omega⟩ ⟨by omega, by omega⟩ (Nat.le_of_ble_eq_true rfl) rfl dL_law_353 (fun zX12 H locs hH => ?_)
  refine lv_icmp_eq (tgt := 854) hx hb dL_law_356 (by decide) (fun c_ => ?_) (fun c_ => absurd rfl c_)
  exact kk _ _ _ _ _ (inv_ac _ _ hI) hH hl
set_option maxHeartbeats 4000000 in
set_option maxRecDepth 100000 in
theorem lwc_7 (hC : CallFix p m c cL_law 4 s args BG "BetsOnBetsLaw") (hK : Kx G s) (hZ : Zx G A s s.heap) (hA : ∀ q, s.heap.size ≤ q → A q) (hX : va_X b L xs s s.heap) (hbl : b < s.heap.size) (hbA : ¬ A b) (hL : L ≤ 2048) (hi : i + 4 ≤ L) (hRf : 12 ≤ R.frames) (hRl : 700 ≤ R.locals) (hRc : cells ≤ R.cells) (hRs : slots ≤ R.slots) (hI : INV σ τ) (hH : Hx G A (WC G aC σ ++ WM G aM τ) s.heap H locs) (hl : lv_has ls 4 [(0, .ref b), (1, .ref (aC 0)), (2, .ref (aM 0)), (3, .int (nI i))])
    (kk : ∀ (σ' τ' : Nat → Nat → Int32) (H : Heap) (locs : List Loc) (ls : Array Slot), INV σ' τ' → Hx G A (WC G aC σ' ++ WM G aM τ') s.heap H locs → lv_has ls 4 [(0, .ref b), (1, .ref (aC 0)), (2, .ref (aM 0)), (3, .int (nI i))] → W p l e R s m args below meth c H locs cells slots Q (F0 m 854 ls [])) : W p l e R s m args below meth c H locs cells slots Q (F0 m 361 ls []) := by
  have hx := hC.1
  have hb := hC.2.1
  obtain ⟨h, k, h2, k2, n, z, iB, iK, iL, iR, iX⟩ := id hI
  refine lv_aload_n hx hb dL_law_361 rfl (lv_at hl 1 rfl) ?_
  refine lv_aload_n hx hb dL_law_362 rfl (lv_at hl 0 rfl) ?_
  refine lv_iload_n hx hb dL_law_363 rfl (lv_at hl 3 rfl) ?_
  refine lv_iconst (v := 1) hx hb dL_law_364 (by decide) ?_
  refine lv_iadd hx hb dL_law_365 ?_
  refine x_sld (j := i + 1) hC hX hbl hbA hH (nI_add i 1) (by omega) hL dL_law_366 ?_
  refine lv_aload_n hx hb dL_law_367 rfl (lv_at hl 0 rfl) ?_
  refine lv_iload_n hx hb dL_law_368 rfl (lv_at hl 3 rfl) ?_
  refine lv_iconst (v := 2) hx hb dL_law_369 (by decide) ?_
  refine lv_iadd hx hb dL_law_370 ?_
  refine x_sld (j := i + 2) hC hX hbl hbA hH (nI_add i 2) (by omega) hL dL_law_371 ?_
  refine x_lwC (As := [.int (xs (i + 1)), .int (xs (i + 2))]) (rest := []) hC hK hZ hA hl.1 hH (k_X11_standing l G aC σ (xs (i + 1)) (xs (i + 2)) h k iB.1 iB.2.1 iB.2.2.1.1 iB.2.2.1.2.1 (wo_of iB.2.2.1.2.1 iB.2.2.2.2)) lk_L_45 rfl ⟨by omega, by omega⟩ ⟨by omega, by omega⟩ (Nat.le_of_ble_eq_true rfl) rfl dL_law_372 (fun H locs hH => ?_)
  refine lv_aload_n hx hb dL_law_375 rfl (lv_at hl 2 rfl) ?_
  refine lv_aload_n hx hb dL_law_376 rfl (lv_at hl 0 rfl) ?_
  refine lv_iload_n hx hb dL_law_377 rfl (lv_at hl 3 rfl) ?_
  refine lv_iconst (v := 1) hx hb dL_law_378 (by decide) ?_
  refine lv_iadd hx hb dL_law_379 ?_
  refine x_sld (j := i + 1) hC hX hbl hbA hH (nI_add i 1) (by omega) hL dL_law_380 ?_
  refine lv_aload_n hx hb dL_law_381 rfl (lv_at hl 0 rfl) ?_
  refine lv_iload_n hx hb dL_law_382 rfl (lv_at hl 3 rfl) ?_
  refine lv_iconst (v := 2) hx hb dL_law_383 (by decide) ?_
  refine lv_iadd hx hb dL_law_384 ?_
  refine x_sld (j := i + 2) hC hX hbl hbA hH (nI_add i 2) (by omega) hL dL_law_385 ?_
  refine x_lwME (As := [.int (xs (i + 1)), .int (xs (i + 2))]) (rest := [.int _]) hC hK hZ hA hl.1 hH (k_X12_standing l G aM τ (xs (i + 1)) (xs (i + 2)) (bk h k (σ 8) (σ 9) (σ 10)) iB.2.2.2.1) lk_L_48 rfl ⟨by omega, by omega⟩ ⟨by omega, by omega⟩ (Nat.le_of_ble_eq_true rfl) rfl dL_law_386 (fun zX12 H locs hH => ?_)
  refine lv_icmp_eq (tgt := 854) hx hb dL_law_389 (by decide) (fun c_ => ?_) (fun c_ => absurd rfl c_)
  exact kk _ _ _ _ _ (inv_ac _ _ hI) hH hl
set_option maxHeartbeats 4000000 in
set_option maxRecDepth 100000 in
theorem lwc_8 (hC : CallFix p m c cL_law 4 s args BG "BetsOnBetsLaw") (hK : Kx G s) (hZ : Zx G A s s.heap) (hA : ∀ q, s.heap.size ≤ q → A q) (hX : va_X b L xs s s.heap) (hbl : b < s.heap.size) (hbA : ¬ A b) (hL : L ≤ 2048) (hi : i + 4 ≤ L) (hRf : 12 ≤ R.frames) (hRl : 700 ≤ R.locals) (hRc : cells ≤ R.cells) (hRs : slots ≤ R.slots) (hI : INV σ τ) (hH : Hx G A (WC G aC σ ++ WM G aM τ) s.heap H locs) (hl : lv_has ls 4 [(0, .ref b), (1, .ref (aC 0)), (2, .ref (aM 0)), (3, .int (nI i))])
    (kk : ∀ (σ' τ' : Nat → Nat → Int32) (H : Heap) (locs : List Loc) (ls : Array Slot), INV σ' τ' → Hx G A (WC G aC σ' ++ WM G aM τ') s.heap H locs → lv_has ls 4 [(0, .ref b), (1, .ref (aC 0)), (2, .ref (aM 0)), (3, .int (nI i))] → W p l e R s m args below meth c H locs cells slots Q (F0 m 854 ls [])) : W p l e R s m args below meth c H locs cells slots Q (F0 m 394 ls []) := by
  have hx := hC.1
  have hb := hC.2.1
  obtain ⟨h, k, h2, k2, n, z, iB, iK, iL, iR, iX⟩ := id hI
  refine lv_aload_n hx hb dL_law_394 rfl (lv_at hl 1 rfl) ?_
  refine lv_aload_n hx hb dL_law_395 rfl (lv_at hl 0 rfl) ?_
  refine lv_iload_n hx hb dL_law_396 rfl (lv_at hl 3 rfl) ?_
  refine lv_iconst (v := 1) hx hb dL_law_397 (by decide) ?_
  refine lv_iadd hx hb dL_law_398 ?_
  refine x_sld (j := i + 1) hC hX hbl hbA hH (nI_add i 1) (by omega) hL dL_law_399 ?_
  refine lv_aload_n hx hb dL_law_400 rfl (lv_at hl 0 rfl) ?_
  refine lv_iload_n hx hb dL_law_401 rfl (lv_at hl 3 rfl) ?_
  refine lv_iconst (v := 2) hx hb dL_law_402 (by decide) ?_
  refine lv_iadd hx hb dL_law_403 ?_
  refine x_sld (j := i + 2) hC hX hbl hbA hH (nI_add i 2) (by omega) hL dL_law_404 ?_
  refine x_lwC (As := [.int (xs (i + 1)), .int (xs (i + 2))]) (rest := []) hC hK hZ hA hl.1 hH (k_X11_purse l G aC σ (xs (i + 1)) (xs (i + 2)) h k iB.1 iB.2.1 iB.2.2.1.1 iB.2.2.1.2.1 (wo_of iB.2.2.1.2.1 iB.2.2.2.2) iB.2.2.1.bh) lk_L_49 rfl ⟨by omega, by omega⟩ ⟨by omega, by omega⟩ (Nat.le_of_ble_eq_true rfl) rfl dL_law_405 (fun H locs hH => ?_)
  refine lv_aload_n hx hb dL_law_408 rfl (lv_at hl 2 rfl) ?_
  refine lv_aload_n hx hb dL_law_409 rfl (lv_at hl 0 rfl) ?_
  refine lv_iload_n hx hb dL_law_410 rfl (lv_at hl 3 rfl) ?_
  refine lv_iconst (v := 1) hx hb dL_law_411 (by decide) ?_
  refine lv_iadd hx hb dL_law_412 ?_
  refine x_sld (j := i + 1) hC hX hbl hbA hH (nI_add i 1) (by omega) hL dL_law_413 ?_
  refine lv_aload_n hx hb dL_law_414 rfl (lv_at hl 0 rfl) ?_
  refine lv_iload_n hx hb dL_law_415 rfl (lv_at hl 3 rfl) ?_
  refine lv_iconst (v := 2) hx hb dL_law_416 (by decide) ?_
  refine lv_iadd hx hb dL_law_417 ?_
  refine x_sld (j := i + 2) hC hX hbl hbA hH (nI_add i 2) (by omega) hL dL_law_418 ?_
  refine x_lwME (As := [.int (xs (i + 1)), .int (xs (i + 2))]) (rest := [.int _]) hC hK hZ hA hl.1 hH (k_X12_purse l G aM τ (xs (i + 1)) (xs (i + 2)) (bk h k (σ 8) (σ 9) (σ 10)) iB.2.2.2.1) lk_L_52 rfl ⟨by omega, by omega⟩ ⟨by omega, by omega⟩ (Nat.le_of_ble_eq_true rfl) rfl dL_law_419 (fun zX12 H locs hH => ?_)
  refine lv_icmp_eq (tgt := 854) hx hb dL_law_422 (by decide) (fun c_ => ?_) (fun c_ => absurd rfl c_)
  exact kk _ _ _ _ _ (inv_ac _ _ hI) hH hl
set_option maxHeartbeats 4000000 in
set_option maxRecDepth 100000 in
theorem lwc_9 (hC : CallFix p m c cL_law 4 s args BG "BetsOnBetsLaw") (hK : Kx G s) (hZ : Zx G A s s.heap) (hA : ∀ q, s.heap.size ≤ q → A q) (hX : va_X b L xs s s.heap) (hbl : b < s.heap.size) (hbA : ¬ A b) (hL : L ≤ 2048) (hi : i + 4 ≤ L) (hRf : 12 ≤ R.frames) (hRl : 700 ≤ R.locals) (hRc : cells ≤ R.cells) (hRs : slots ≤ R.slots) (hI : INV σ τ) (hH : Hx G A (WC G aC σ ++ WM G aM τ) s.heap H locs) (hl : lv_has ls 4 [(0, .ref b), (1, .ref (aC 0)), (2, .ref (aM 0)), (3, .int (nI i))])
    (kk : ∀ (σ' τ' : Nat → Nat → Int32) (H : Heap) (locs : List Loc) (ls : Array Slot), INV σ' τ' → Hx G A (WC G aC σ' ++ WM G aM τ') s.heap H locs → lv_has ls 4 [(0, .ref b), (1, .ref (aC 0)), (2, .ref (aM 0)), (3, .int (nI i))] → W p l e R s m args below meth c H locs cells slots Q (F0 m 854 ls [])) : W p l e R s m args below meth c H locs cells slots Q (F0 m 427 ls []) := by
  have hx := hC.1
  have hb := hC.2.1
  obtain ⟨h, k, h2, k2, n, z, iB, iK, iL, iR, iX⟩ := id hI
  refine lv_aload_n hx hb dL_law_427 rfl (lv_at hl 1 rfl) ?_
  refine lv_aload_n hx hb dL_law_428 rfl (lv_at hl 0 rfl) ?_
  refine lv_iload_n hx hb dL_law_429 rfl (lv_at hl 3 rfl) ?_
  refine lv_iconst (v := 1) hx hb dL_law_430 (by decide) ?_
  refine lv_iadd hx hb dL_law_431 ?_
  refine x_sld (j := i + 1) hC hX hbl hbA hH (nI_add i 1) (by omega) hL dL_law_432 ?_
  refine x_lwC (As := [.int (xs (i + 1))]) (rest := []) hC hK hZ hA hl.1 hH (k_X11_mean l G aC σ (xs (i + 1)) h k iB.1 iB.2.1 iB.2.2.1.1 iB.2.2.1.2.1 (wo_of iB.2.2.1.2.1 iB.2.2.2.2) iB.2.2.1.bh) lk_L_53 rfl ⟨by omega, by omega⟩ ⟨by omega, by omega⟩ (Nat.le_of_ble_eq_true rfl) rfl dL_law_433 (fun H locs hH => ?_)
  refine lv_aload_n hx hb dL_law_436 rfl (lv_at hl 2 rfl) ?_
  refine lv_aload_n hx hb dL_law_437 rfl (lv_at hl 0 rfl) ?_
  refine lv_iload_n hx hb dL_law_438 rfl (lv_at hl 3 rfl) ?_
  refine lv_iconst (v := 1) hx hb dL_law_439 (by decide) ?_
  refine lv_iadd hx hb dL_law_440 ?_
  refine x_sld (j := i + 1) hC hX hbl hbA hH (nI_add i 1) (by omega) hL dL_law_441 ?_
  refine x_lwME (As := [.int (xs (i + 1))]) (rest := [.int _]) hC hK hZ hA hl.1 hH (k_X12_mean l G aM τ (xs (i + 1)) (bk h k (σ 8) (σ 9) (σ 10)) iB.2.2.2.1) lk_L_56 rfl ⟨by omega, by omega⟩ ⟨by omega, by omega⟩ (Nat.le_of_ble_eq_true rfl) rfl dL_law_442 (fun zX12 H locs hH => ?_)
  refine lv_icmp_eq (tgt := 854) hx hb dL_law_445 (by decide) (fun c_ => ?_) (fun c_ => absurd rfl c_)
  exact kk _ _ _ _ _ (inv_ac _ _ hI) hH hl
set_option maxHeartbeats 4000000 in
set_option maxRecDepth 100000 in
theorem lwc_10 (hC : CallFix p m c cL_law 4 s args BG "BetsOnBetsLaw") (hK : Kx G s) (hZ : Zx G A s s.heap) (hA : ∀ q, s.heap.size ≤ q → A q) (hX : va_X b L xs s s.heap) (hbl : b < s.heap.size) (hbA : ¬ A b) (hL : L ≤ 2048) (hi : i + 4 ≤ L) (hRf : 12 ≤ R.frames) (hRl : 700 ≤ R.locals) (hRc : cells ≤ R.cells) (hRs : slots ≤ R.slots) (hI : INV σ τ) (hH : Hx G A (WC G aC σ ++ WM G aM τ) s.heap H locs) (hl : lv_has ls 4 [(0, .ref b), (1, .ref (aC 0)), (2, .ref (aM 0)), (3, .int (nI i))])
    (kk : ∀ (σ' τ' : Nat → Nat → Int32) (H : Heap) (locs : List Loc) (ls : Array Slot), INV σ' τ' → Hx G A (WC G aC σ' ++ WM G aM τ') s.heap H locs → lv_has ls 4 [(0, .ref b), (1, .ref (aC 0)), (2, .ref (aM 0)), (3, .int (nI i))] → W p l e R s m args below meth c H locs cells slots Q (F0 m 854 ls [])) : W p l e R s m args below meth c H locs cells slots Q (F0 m 450 ls []) := by
  have hx := hC.1
  have hb := hC.2.1
  obtain ⟨h, k, h2, k2, n, z, iB, iK, iL, iR, iX⟩ := id hI
  refine lv_aload_n hx hb dL_law_450 rfl (lv_at hl 1 rfl) ?_
  refine lv_aload_n hx hb dL_law_451 rfl (lv_at hl 0 rfl) ?_
  refine lv_iload_n hx hb dL_law_452 rfl (lv_at hl 3 rfl) ?_
  refine lv_iconst (v := 1) hx hb dL_law_453 (by decide) ?_
  refine lv_iadd hx hb dL_law_454 ?_
  refine x_sld (j := i + 1) hC hX hbl hbA hH (nI_add i 1) (by omega) hL dL_law_455 ?_
  refine lv_aload_n hx hb dL_law_456 rfl (lv_at hl 0 rfl) ?_
  refine lv_iload_n hx hb dL_law_457 rfl (lv_at hl 3 rfl) ?_
  refine lv_iconst (v := 2) hx hb dL_law_458 (by decide) ?_
  refine lv_iadd hx hb dL_law_459 ?_
  refine x_sld (j := i + 2) hC hX hbl hbA hH (nI_add i 2) (by omega) hL dL_law_460 ?_
  refine x_lwC (As := [.int (xs (i + 1)), .int (xs (i + 2))]) (rest := []) hC hK hZ hA hl.1 hH (k_X11_worst l G aC σ (xs (i + 1)) (xs (i + 2)) h k iB.1 iB.2.1 iB.2.2.1.1 iB.2.2.1.2.1 (wo_of iB.2.2.1.2.1 iB.2.2.2.2) iB.2.2.1.bh iB.2.2.1.pb) lk_L_57 rfl ⟨by omega, by omega⟩ ⟨by omega, by omega⟩ (Nat.le_of_ble_eq_true rfl) rfl dL_law_461 (fun H locs hH => ?_)
  refine lv_aload_n hx hb dL_law_464 rfl (lv_at hl 2 rfl) ?_
  refine lv_aload_n hx hb dL_law_465 rfl (lv_at hl 0 rfl) ?_
  refine lv_iload_n hx hb dL_law_466 rfl (lv_at hl 3 rfl) ?_
  refine lv_iconst (v := 1) hx hb dL_law_467 (by decide) ?_
  refine lv_iadd hx hb dL_law_468 ?_
  refine x_sld (j := i + 1) hC hX hbl hbA hH (nI_add i 1) (by omega) hL dL_law_469 ?_
  refine lv_aload_n hx hb dL_law_470 rfl (lv_at hl 0 rfl) ?_
  refine lv_iload_n hx hb dL_law_471 rfl (lv_at hl 3 rfl) ?_
  refine lv_iconst (v := 2) hx hb dL_law_472 (by decide) ?_
  refine lv_iadd hx hb dL_law_473 ?_
  refine x_sld (j := i + 2) hC hX hbl hbA hH (nI_add i 2) (by omega) hL dL_law_474 ?_
  refine x_lwME (As := [.int (xs (i + 1)), .int (xs (i + 2))]) (rest := [.int _]) hC hK hZ hA hl.1 hH (k_X12_worst l G aM τ (xs (i + 1)) (xs (i + 2)) (bk h k (σ 8) (σ 9) (σ 10)) iB.2.2.2.1) lk_L_60 rfl ⟨by omega, by omega⟩ ⟨by omega, by omega⟩ (Nat.le_of_ble_eq_true rfl) rfl dL_law_475 (fun zX12 H locs hH => ?_)
  refine lv_icmp_eq (tgt := 854) hx hb dL_law_478 (by decide) (fun c_ => ?_) (fun c_ => absurd rfl c_)
  exact kk _ _ _ _ _ (inv_ac _ _ hI) hH hl
set_option maxHeartbeats 4000000 in
set_option maxRecDepth 100000 in
theorem lwc_11 (hC : CallFix p m c cL_law 4 s args BG "BetsOnBetsLaw") (hK : Kx G s) (hZ : Zx G A s s.heap) (hA : ∀ q, s.heap.size ≤ q → A q) (hX : va_X b L xs s s.heap) (hbl : b < s.heap.size) (hbA : ¬ A b) (hL : L ≤ 2048) (hi : i + 4 ≤ L) (hRf : 12 ≤ R.frames) (hRl : 700 ≤ R.locals) (hRc : cells ≤ R.cells) (hRs : slots ≤ R.slots) (hI : INV σ τ) (hH : Hx G A (WC G aC σ ++ WM G aM τ) s.heap H locs) (hl : lv_has ls 4 [(0, .ref b), (1, .ref (aC 0)), (2, .ref (aM 0)), (3, .int (nI i))])
    (kk : ∀ (σ' τ' : Nat → Nat → Int32) (H : Heap) (locs : List Loc) (ls : Array Slot), INV σ' τ' → Hx G A (WC G aC σ' ++ WM G aM τ') s.heap H locs → lv_has ls 4 [(0, .ref b), (1, .ref (aC 0)), (2, .ref (aM 0)), (3, .int (nI i))] → W p l e R s m args below meth c H locs cells slots Q (F0 m 854 ls [])) : W p l e R s m args below meth c H locs cells slots Q (F0 m 483 ls []) := by
  have hx := hC.1
  have hb := hC.2.1
  obtain ⟨h, k, h2, k2, n, z, iB, iK, iL, iR, iX⟩ := id hI
  refine lv_aload_n hx hb dL_law_483 rfl (lv_at hl 1 rfl) ?_
  refine lv_aload_n hx hb dL_law_484 rfl (lv_at hl 0 rfl) ?_
  refine lv_iload_n hx hb dL_law_485 rfl (lv_at hl 3 rfl) ?_
  refine lv_iconst (v := 1) hx hb dL_law_486 (by decide) ?_
  refine lv_iadd hx hb dL_law_487 ?_
  refine x_sld (j := i + 1) hC hX hbl hbA hH (nI_add i 1) (by omega) hL dL_law_488 ?_
  refine lv_aload_n hx hb dL_law_489 rfl (lv_at hl 0 rfl) ?_
  refine lv_iload_n hx hb dL_law_490 rfl (lv_at hl 3 rfl) ?_
  refine lv_iconst (v := 2) hx hb dL_law_491 (by decide) ?_
  refine lv_iadd hx hb dL_law_492 ?_
  refine x_sld (j := i + 2) hC hX hbl hbA hH (nI_add i 2) (by omega) hL dL_law_493 ?_
  refine x_lwC (As := [.int (xs (i + 1)), .int (xs (i + 2))]) (rest := []) hC hK hZ hA hl.1 hH (k_X11_best l G aC σ (xs (i + 1)) (xs (i + 2)) h k iB.1 iB.2.1 iB.2.2.1.1 iB.2.2.1.2.1 (wo_of iB.2.2.1.2.1 iB.2.2.2.2) iB.2.2.1.bh iB.2.2.1.pb) lk_L_61 rfl ⟨by omega, by omega⟩ ⟨by omega, by omega⟩ (Nat.le_of_ble_eq_true rfl) rfl dL_law_494 (fun H locs hH => ?_)
  refine lv_aload_n hx hb dL_law_497 rfl (lv_at hl 2 rfl) ?_
  refine lv_aload_n hx hb dL_law_498 rfl (lv_at hl 0 rfl) ?_
  refine lv_iload_n hx hb dL_law_499 rfl (lv_at hl 3 rfl) ?_
  refine lv_iconst (v := 1) hx hb dL_law_500 (by decide) ?_
  refine lv_iadd hx hb dL_law_501 ?_
  refine x_sld (j := i + 1) hC hX hbl hbA hH (nI_add i 1) (by omega) hL dL_law_502 ?_
  refine lv_aload_n hx hb dL_law_503 rfl (lv_at hl 0 rfl) ?_
  refine lv_iload_n hx hb dL_law_504 rfl (lv_at hl 3 rfl) ?_
  refine lv_iconst (v := 2) hx hb dL_law_505 (by decide) ?_
  refine lv_iadd hx hb dL_law_506 ?_
  refine x_sld (j := i + 2) hC hX hbl hbA hH (nI_add i 2) (by omega) hL dL_law_507 ?_
  refine x_lwME (As := [.int (xs (i + 1)), .int (xs (i + 2))]) (rest := [.int _]) hC hK hZ hA hl.1 hH (k_X12_best l G aM τ (xs (i + 1)) (xs (i + 2)) (bk h k (σ 8) (σ 9) (σ 10)) iB.2.2.2.1) lk_L_64 rfl ⟨by omega, by omega⟩ ⟨by omega, by omega⟩ (Nat.le_of_ble_eq_true rfl) rfl dL_law_508 (fun zX12 H locs hH => ?_)
  refine lv_icmp_eq (tgt := 854) hx hb dL_law_511 (by decide) (fun c_ => ?_) (fun c_ => absurd rfl c_)
  exact kk _ _ _ _ _ (inv_ac _ _ hI) hH hl
set_option maxHeartbeats 4000000 in
set_option maxRecDepth 100000 in
theorem lwc_12 (hC : CallFix p m c cL_law 4 s args BG "BetsOnBetsLaw") (hK : Kx G s) (hZ : Zx G A s s.heap) (hA : ∀ q, s.heap.size ≤ q → A q) (hX : va_X b L xs s s.heap) (hbl : b < s.heap.size) (hbA : ¬ A b) (hL : L ≤ 2048) (hi : i + 4 ≤ L) (hRf : 12 ≤ R.frames) (hRl : 700 ≤ R.locals) (hRc : cells ≤ R.cells) (hRs : slots ≤ R.slots) (hI : INV σ τ) (hH : Hx G A (WC G aC σ ++ WM G aM τ) s.heap H locs) (hl : lv_has ls 4 [(0, .ref b), (1, .ref (aC 0)), (2, .ref (aM 0)), (3, .int (nI i))])
    (kk : ∀ (σ' τ' : Nat → Nat → Int32) (H : Heap) (locs : List Loc) (ls : Array Slot), INV σ' τ' → Hx G A (WC G aC σ' ++ WM G aM τ') s.heap H locs → lv_has ls 4 [(0, .ref b), (1, .ref (aC 0)), (2, .ref (aM 0)), (3, .int (nI i))] → W p l e R s m args below meth c H locs cells slots Q (F0 m 854 ls [])) : W p l e R s m args below meth c H locs cells slots Q (F0 m 516 ls []) := by
  have hx := hC.1
  have hb := hC.2.1
  obtain ⟨h, k, h2, k2, n, z, iB, iK, iL, iR, iX⟩ := id hI
  refine lv_aload_n hx hb dL_law_516 rfl (lv_at hl 1 rfl) ?_
  refine lv_aload_n hx hb dL_law_517 rfl (lv_at hl 0 rfl) ?_
  refine lv_iload_n hx hb dL_law_518 rfl (lv_at hl 3 rfl) ?_
  refine lv_iconst (v := 1) hx hb dL_law_519 (by decide) ?_
  refine lv_iadd hx hb dL_law_520 ?_
  refine x_sld (j := i + 1) hC hX hbl hbA hH (nI_add i 1) (by omega) hL dL_law_521 ?_
  refine x_lwC (As := [.int (xs (i + 1))]) (rest := []) hC hK hZ hA hl.1 hH (k_X11_sure l G aC σ (xs (i + 1)) h k iB.1 iB.2.1 iB.2.2.1.1 iB.2.2.1.2.1 (wo_of iB.2.2.1.2.1 iB.2.2.2.2) iB.2.2.1.bh iB.2.2.1.pb) lk_L_65 rfl ⟨by omega, by omega⟩ ⟨by omega, by omega⟩ (Nat.le_of_ble_eq_true rfl) rfl dL_law_522 (fun H locs hH => ?_)
  refine lv_aload_n hx hb dL_law_525 rfl (lv_at hl 2 rfl) ?_
  refine lv_aload_n hx hb dL_law_526 rfl (lv_at hl 0 rfl) ?_
  refine lv_iload_n hx hb dL_law_527 rfl (lv_at hl 3 rfl) ?_
  refine lv_iconst (v := 1) hx hb dL_law_528 (by decide) ?_
  refine lv_iadd hx hb dL_law_529 ?_
  refine x_sld (j := i + 1) hC hX hbl hbA hH (nI_add i 1) (by omega) hL dL_law_530 ?_
  refine x_lwME (As := [.int (xs (i + 1))]) (rest := [.int _]) hC hK hZ hA hl.1 hH (k_X12_sure l G aM τ (xs (i + 1)) (bk h k (σ 8) (σ 9) (σ 10)) iB.2.2.2.1) lk_L_68 rfl ⟨by omega, by omega⟩ ⟨by omega, by omega⟩ (Nat.le_of_ble_eq_true rfl) rfl dL_law_531 (fun zX12 H locs hH => ?_)
  refine lv_icmp_eq (tgt := 854) hx hb dL_law_534 (by decide) (fun c_ => ?_) (fun c_ => absurd rfl c_)
  exact kk _ _ _ _ _ (inv_ac _ _ hI) hH hl
set_option maxHeartbeats 4000000 in
set_option maxRecDepth 100000 in
theorem lwc_13 (hC : CallFix p m c cL_law 4 s args BG "BetsOnBetsLaw") (hK : Kx G s) (hZ : Zx G A s s.heap) (hA : ∀ q, s.heap.size ≤ q → A q) (hX : va_X b L xs s s.heap) (hbl : b < s.heap.size) (hbA : ¬ A b) (hL : L ≤ 2048) (hi : i + 4 ≤ L) (hRf : 12 ≤ R.frames) (hRl : 700 ≤ R.locals) (hRc : cells ≤ R.cells) (hRs : slots ≤ R.slots) (hI : INV σ τ) (hH : Hx G A (WC G aC σ ++ WM G aM τ) s.heap H locs) (hl : lv_has ls 4 [(0, .ref b), (1, .ref (aC 0)), (2, .ref (aM 0)), (3, .int (nI i))])
    (kk : ∀ (σ' τ' : Nat → Nat → Int32) (H : Heap) (locs : List Loc) (ls : Array Slot), INV σ' τ' → Hx G A (WC G aC σ' ++ WM G aM τ') s.heap H locs → lv_has ls 4 [(0, .ref b), (1, .ref (aC 0)), (2, .ref (aM 0)), (3, .int (nI i))] → W p l e R s m args below meth c H locs cells slots Q (F0 m 854 ls [])) : W p l e R s m args below meth c H locs cells slots Q (F0 m 539 ls []) := by
  have hx := hC.1
  have hb := hC.2.1
  obtain ⟨h, k, h2, k2, n, z, iB, iK, iL, iR, iX⟩ := id hI
  refine lv_aload_n hx hb dL_law_539 rfl (lv_at hl 1 rfl) ?_
  refine lv_aload_n hx hb dL_law_540 rfl (lv_at hl 0 rfl) ?_
  refine lv_iload_n hx hb dL_law_541 rfl (lv_at hl 3 rfl) ?_
  refine lv_iconst (v := 1) hx hb dL_law_542 (by decide) ?_
  refine lv_iadd hx hb dL_law_543 ?_
  refine x_sld (j := i + 1) hC hX hbl hbA hH (nI_add i 1) (by omega) hL dL_law_544 ?_
  refine x_lwC (As := [.int (xs (i + 1))]) (rest := []) hC hK hZ hA hl.1 hH (k_X11_likely l G aC σ (xs (i + 1)) h k iB.1 iB.2.1 iB.2.2.1.1 iB.2.2.1.2.1 (wo_of iB.2.2.1.2.1 iB.2.2.2.2) iB.2.2.1.bh) lk_L_69 rfl ⟨by omega, by omega⟩ ⟨by omega, by omega⟩ (Nat.le_of_ble_eq_true rfl) rfl dL_law_545 (fun H locs hH => ?_)
  refine lv_aload_n hx hb dL_law_548 rfl (lv_at hl 2 rfl) ?_
  refine lv_aload_n hx hb dL_law_549 rfl (lv_at hl 0 rfl) ?_
  refine lv_iload_n hx hb dL_law_550 rfl (lv_at hl 3 rfl) ?_
  refine lv_iconst (v := 1) hx hb dL_law_551 (by decide) ?_
  refine lv_iadd hx hb dL_law_552 ?_
  refine x_sld (j := i + 1) hC hX hbl hbA hH (nI_add i 1) (by omega) hL dL_law_553 ?_
  refine x_lwME (As := [.int (xs (i + 1))]) (rest := [.int _]) hC hK hZ hA hl.1 hH (k_X12_likely l G aM τ (xs (i + 1)) (bk h k (σ 8) (σ 9) (σ 10)) iB.2.2.2.1) lk_L_72 rfl ⟨by omega, by omega⟩ ⟨by omega, by omega⟩ (Nat.le_of_ble_eq_true rfl) rfl dL_law_554 (fun zX12 H locs hH => ?_)
  refine lv_icmp_eq (tgt := 854) hx hb dL_law_557 (by decide) (fun c_ => ?_) (fun c_ => absurd rfl c_)
  exact kk _ _ _ _ _ (inv_ac _ _ hI) hH hl
set_option maxHeartbeats 4000000 in
set_option maxRecDepth 100000 in
theorem lwc_14 (hC : CallFix p m c cL_law 4 s args BG "BetsOnBetsLaw") (hK : Kx G s) (hZ : Zx G A s s.heap) (hA : ∀ q, s.heap.size ≤ q → A q) (hX : va_X b L xs s s.heap) (hbl : b < s.heap.size) (hbA : ¬ A b) (hL : L ≤ 2048) (hi : i + 4 ≤ L) (hRf : 12 ≤ R.frames) (hRl : 700 ≤ R.locals) (hRc : cells ≤ R.cells) (hRs : slots ≤ R.slots) (hI : INV σ τ) (hH : Hx G A (WC G aC σ ++ WM G aM τ) s.heap H locs) (hl : lv_has ls 4 [(0, .ref b), (1, .ref (aC 0)), (2, .ref (aM 0)), (3, .int (nI i))])
    (kk : ∀ (σ' τ' : Nat → Nat → Int32) (H : Heap) (locs : List Loc) (ls : Array Slot), INV σ' τ' → Hx G A (WC G aC σ' ++ WM G aM τ') s.heap H locs → lv_has ls 4 [(0, .ref b), (1, .ref (aC 0)), (2, .ref (aM 0)), (3, .int (nI i))] → W p l e R s m args below meth c H locs cells slots Q (F0 m 854 ls [])) : W p l e R s m args below meth c H locs cells slots Q (F0 m 562 ls []) := by
  have hx := hC.1
  have hb := hC.2.1
  obtain ⟨h, k, h2, k2, n, z, iB, iK, iL, iR, iX⟩ := id hI
  refine lv_aload_n hx hb dL_law_562 rfl (lv_at hl 1 rfl) ?_
  refine x_lwC (As := []) (rest := []) hC hK hZ hA hl.1 hH (k_X11_voids l G aC σ h k iB.1 iB.2.1 iB.2.2.1.1 iB.2.2.1.2.1 iB.2.2.2.2) lk_L_73 rfl ⟨by omega, by omega⟩ ⟨by omega, by omega⟩ (Nat.le_of_ble_eq_true rfl) rfl dL_law_563 (fun H locs hH => ?_)
  refine lv_aload_n hx hb dL_law_566 rfl (lv_at hl 2 rfl) ?_
  refine x_lwME (As := []) (rest := [.int _]) hC hK hZ hA hl.1 hH (k_X12_voids l G aM τ (bk h k (σ 8) (σ 9) (σ 10)) iB.2.2.2.1) lk_L_76 rfl ⟨by omega, by omega⟩ ⟨by omega, by omega⟩ (Nat.le_of_ble_eq_true rfl) rfl dL_law_567 (fun zX12 H locs hH => ?_)
  refine lv_icmp_eq (tgt := 854) hx hb dL_law_570 (by decide) (fun c_ => ?_) (fun c_ => absurd rfl c_)
  exact kk _ _ _ _ _ (inv_bd _ hI) hH hl
set_option maxHeartbeats 4000000 in
set_option maxRecDepth 100000 in
theorem lwc_15 (hC : CallFix p m c cL_law 4 s args BG "BetsOnBetsLaw") (hK : Kx G s) (hZ : Zx G A s s.heap) (hA : ∀ q, s.heap.size ≤ q → A q) (hX : va_X b L xs s s.heap) (hbl : b < s.heap.size) (hbA : ¬ A b) (hL : L ≤ 2048) (hi : i + 4 ≤ L) (hRf : 12 ≤ R.frames) (hRl : 700 ≤ R.locals) (hRc : cells ≤ R.cells) (hRs : slots ≤ R.slots) (hI : INV σ τ) (hH : Hx G A (WC G aC σ ++ WM G aM τ) s.heap H locs) (hl : lv_has ls 4 [(0, .ref b), (1, .ref (aC 0)), (2, .ref (aM 0)), (3, .int (nI i))])
    (kk : ∀ (σ' τ' : Nat → Nat → Int32) (H : Heap) (locs : List Loc) (ls : Array Slot), INV σ' τ' → Hx G A (WC G aC σ' ++ WM G aM τ') s.heap H locs → lv_has ls 4 [(0, .ref b), (1, .ref (aC 0)), (2, .ref (aM 0)), (3, .int (nI i))] → W p l e R s m args below meth c H locs cells slots Q (F0 m 854 ls [])) : W p l e R s m args below meth c H locs cells slots Q (F0 m 575 ls []) := by
  have hx := hC.1
  have hb := hC.2.1
  obtain ⟨h, k, h2, k2, n, z, iB, iK, iL, iR, iX⟩ := id hI
  refine lv_aload_n hx hb dL_law_575 rfl (lv_at hl 1 rfl) ?_
  refine lv_aload_n hx hb dL_law_576 rfl (lv_at hl 0 rfl) ?_
  refine lv_iload_n hx hb dL_law_577 rfl (lv_at hl 3 rfl) ?_
  refine lv_iconst (v := 1) hx hb dL_law_578 (by decide) ?_
  refine lv_iadd hx hb dL_law_579 ?_
  refine x_sld (j := i + 1) hC hX hbl hbA hH (nI_add i 1) (by omega) hL dL_law_580 ?_
  refine x_lwCE (As := [.int (xs (i + 1))]) (rest := []) hC hK hZ hA hl.1 hH (k_X11_sparing l G aC σ (xs (i + 1)) h k iB.1 iB.2.1 iB.2.2.1.1 iB.2.2.1.2.1 (wo_of iB.2.2.1.2.1 iB.2.2.2.2) iB.2.2.1.bh iB.2.2.1.2.2.2.2.1) lk_L_77 rfl ⟨by omega, by omega⟩ ⟨by omega, by omega⟩ (Nat.le_of_ble_eq_true rfl) rfl dL_law_581 (fun zX11 H locs hH => ?_)
  refine lv_aload_n hx hb dL_law_584 rfl (lv_at hl 2 rfl) ?_
  refine lv_aload_n hx hb dL_law_585 rfl (lv_at hl 0 rfl) ?_
  refine lv_iload_n hx hb dL_law_586 rfl (lv_at hl 3 rfl) ?_
  refine lv_iconst (v := 1) hx hb dL_law_587 (by decide) ?_
  refine lv_iadd hx hb dL_law_588 ?_
  refine x_sld (j := i + 1) hC hX hbl hbA hH (nI_add i 1) (by omega) hL dL_law_589 ?_
  refine x_lwME (As := [.int (xs (i + 1))]) (rest := [.int _]) hC hK hZ hA hl.1 hH (k_X12_sparing l G aM τ (xs (i + 1)) (bk h k (σ 8) (σ 9) (σ 10)) iB.2.2.2.1) lk_L_80 rfl ⟨by omega, by omega⟩ ⟨by omega, by omega⟩ (Nat.le_of_ble_eq_true rfl) rfl dL_law_590 (fun zX12 H locs hH => ?_)
  refine lv_icmp_eq (tgt := 854) hx hb dL_law_593 (by decide) (fun c_ => ?_) (fun c_ => absurd rfl c_)
  exact kk _ _ _ _ _ (inv_cc _ _ _ hI) hH hl
set_option maxHeartbeats 4000000 in
set_option maxRecDepth 100000 in
theorem lwc_16 (hC : CallFix p m c cL_law 4 s args BG "BetsOnBetsLaw") (hK : Kx G s) (hZ : Zx G A s s.heap) (hA : ∀ q, s.heap.size ≤ q → A q) (hX : va_X b L xs s s.heap) (hbl : b < s.heap.size) (hbA : ¬ A b) (hL : L ≤ 2048) (hi : i + 4 ≤ L) (hRf : 12 ≤ R.frames) (hRl : 700 ≤ R.locals) (hRc : cells ≤ R.cells) (hRs : slots ≤ R.slots) (hI : INV σ τ) (hH : Hx G A (WC G aC σ ++ WM G aM τ) s.heap H locs) (hl : lv_has ls 4 [(0, .ref b), (1, .ref (aC 0)), (2, .ref (aM 0)), (3, .int (nI i))])
    (kk : ∀ (σ' τ' : Nat → Nat → Int32) (H : Heap) (locs : List Loc) (ls : Array Slot), INV σ' τ' → Hx G A (WC G aC σ' ++ WM G aM τ') s.heap H locs → lv_has ls 4 [(0, .ref b), (1, .ref (aC 0)), (2, .ref (aM 0)), (3, .int (nI i))] → W p l e R s m args below meth c H locs cells slots Q (F0 m 854 ls [])) : W p l e R s m args below meth c H locs cells slots Q (F0 m 598 ls []) := by
  have hx := hC.1
  have hb := hC.2.1
  obtain ⟨h, k, h2, k2, n, z, iB, iK, iL, iR, iX⟩ := id hI
  refine lv_aload_n hx hb dL_law_598 rfl (lv_at hl 1 rfl) ?_
  refine lv_aload_n hx hb dL_law_599 rfl (lv_at hl 0 rfl) ?_
  refine lv_iload_n hx hb dL_law_600 rfl (lv_at hl 3 rfl) ?_
  refine lv_iconst (v := 1) hx hb dL_law_601 (by decide) ?_
  refine lv_iadd hx hb dL_law_602 ?_
  refine x_sld (j := i + 1) hC hX hbl hbA hH (nI_add i 1) (by omega) hL dL_law_603 ?_
  refine x_lwCE (As := [.int (xs (i + 1))]) (rest := []) hC hK hZ hA hl.1 hH (k_X11_safeOdds l G aC σ (xs (i + 1)) h k iB.1 iB.2.1 iB.2.2.1.1 iB.2.2.1.2.1 (wo_of iB.2.2.1.2.1 iB.2.2.2.2) iB.2.2.1.bh) lk_L_81 rfl ⟨by omega, by omega⟩ ⟨by omega, by omega⟩ (Nat.le_of_ble_eq_true rfl) rfl dL_law_604 (fun zX11 H locs hH => ?_)
  refine lv_aload_n hx hb dL_law_607 rfl (lv_at hl 2 rfl) ?_
  refine lv_aload_n hx hb dL_law_608 rfl (lv_at hl 0 rfl) ?_
  refine lv_iload_n hx hb dL_law_609 rfl (lv_at hl 3 rfl) ?_
  refine lv_iconst (v := 1) hx hb dL_law_610 (by decide) ?_
  refine lv_iadd hx hb dL_law_611 ?_
  refine x_sld (j := i + 1) hC hX hbl hbA hH (nI_add i 1) (by omega) hL dL_law_612 ?_
  refine x_lwME (As := [.int (xs (i + 1))]) (rest := [.int _]) hC hK hZ hA hl.1 hH (k_X12_safeOdds l G aM τ (xs (i + 1)) (bk h k (σ 8) (σ 9) (σ 10)) iB.2.2.2.1) lk_L_84 rfl ⟨by omega, by omega⟩ ⟨by omega, by omega⟩ (Nat.le_of_ble_eq_true rfl) rfl dL_law_613 (fun zX12 H locs hH => ?_)
  refine lv_icmp_eq (tgt := 854) hx hb dL_law_616 (by decide) (fun c_ => ?_) (fun c_ => absurd rfl c_)
  exact kk _ _ _ _ _ (inv_cc _ _ _ hI) hH hl
set_option maxHeartbeats 4000000 in
set_option maxRecDepth 100000 in
theorem lwc_17 (hC : CallFix p m c cL_law 4 s args BG "BetsOnBetsLaw") (hK : Kx G s) (hZ : Zx G A s s.heap) (hA : ∀ q, s.heap.size ≤ q → A q) (hX : va_X b L xs s s.heap) (hbl : b < s.heap.size) (hbA : ¬ A b) (hL : L ≤ 2048) (hi : i + 4 ≤ L) (hRf : 12 ≤ R.frames) (hRl : 700 ≤ R.locals) (hRc : cells ≤ R.cells) (hRs : slots ≤ R.slots) (hI : INV σ τ) (hH : Hx G A (WC G aC σ ++ WM G aM τ) s.heap H locs) (hl : lv_has ls 4 [(0, .ref b), (1, .ref (aC 0)), (2, .ref (aM 0)), (3, .int (nI i))])
    (kk : ∀ (σ' τ' : Nat → Nat → Int32) (H : Heap) (locs : List Loc) (ls : Array Slot), INV σ' τ' → Hx G A (WC G aC σ' ++ WM G aM τ') s.heap H locs → lv_has ls 4 [(0, .ref b), (1, .ref (aC 0)), (2, .ref (aM 0)), (3, .int (nI i))] → W p l e R s m args below meth c H locs cells slots Q (F0 m 854 ls [])) : W p l e R s m args below meth c H locs cells slots Q (F0 m 621 ls []) := by
  have hx := hC.1
  have hb := hC.2.1
  obtain ⟨h, k, h2, k2, n, z, iB, iK, iL, iR, iX⟩ := id hI
  refine lv_aload_n hx hb dL_law_621 rfl (lv_at hl 1 rfl) ?_
  refine x_lwC (As := []) (rest := []) hC hK hZ hA hl.1 hH (k_X11_host l G aC σ h k iB.1 iB.2.1 iB.2.2.1.1 iB.2.2.1.2.1 (wo_of iB.2.2.1.2.1 iB.2.2.2.2) iB.2.2.1.bh) lk_L_85 rfl ⟨by omega, by omega⟩ ⟨by omega, by omega⟩ (Nat.le_of_ble_eq_true rfl) rfl dL_law_622 (fun H locs hH => ?_)
  refine lv_aload_n hx hb dL_law_625 rfl (lv_at hl 2 rfl) ?_
  refine x_lwME (As := []) (rest := [.int _]) hC hK hZ hA hl.1 hH (k_X12_host l G aM τ (bk h k (σ 8) (σ 9) (σ 10)) iB.2.2.2.1) lk_L_88 rfl ⟨by omega, by omega⟩ ⟨by omega, by omega⟩ (Nat.le_of_ble_eq_true rfl) rfl dL_law_626 (fun zX12 H locs hH => ?_)
  refine lv_icmp_eq (tgt := 854) hx hb dL_law_629 (by decide) (fun c_ => ?_) (fun c_ => absurd rfl c_)
  exact kk _ _ _ _ _ (inv_bd _ hI) hH hl
set_option maxHeartbeats 4000000 in
set_option maxRecDepth 100000 in
theorem lwc_18 (hC : CallFix p m c cL_law 4 s args BG "BetsOnBetsLaw") (hK : Kx G s) (hZ : Zx G A s s.heap) (hA : ∀ q, s.heap.size ≤ q → A q) (hX : va_X b L xs s s.heap) (hbl : b < s.heap.size) (hbA : ¬ A b) (hL : L ≤ 2048) (hi : i + 4 ≤ L) (hRf : 12 ≤ R.frames) (hRl : 700 ≤ R.locals) (hRc : cells ≤ R.cells) (hRs : slots ≤ R.slots) (hI : INV σ τ) (hH : Hx G A (WC G aC σ ++ WM G aM τ) s.heap H locs) (hl : lv_has ls 4 [(0, .ref b), (1, .ref (aC 0)), (2, .ref (aM 0)), (3, .int (nI i))])
    (kk : ∀ (σ' τ' : Nat → Nat → Int32) (H : Heap) (locs : List Loc) (ls : Array Slot), INV σ' τ' → Hx G A (WC G aC σ' ++ WM G aM τ') s.heap H locs → lv_has ls 4 [(0, .ref b), (1, .ref (aC 0)), (2, .ref (aM 0)), (3, .int (nI i))] → W p l e R s m args below meth c H locs cells slots Q (F0 m 854 ls [])) : W p l e R s m args below meth c H locs cells slots Q (F0 m 634 ls []) := by
  have hx := hC.1
  have hb := hC.2.1
  obtain ⟨h, k, h2, k2, n, z, iB, iK, iL, iR, iX⟩ := id hI
  refine lv_aload_n hx hb dL_law_634 rfl (lv_at hl 1 rfl) ?_
  refine lv_aload_n hx hb dL_law_635 rfl (lv_at hl 0 rfl) ?_
  refine lv_iload_n hx hb dL_law_636 rfl (lv_at hl 3 rfl) ?_
  refine lv_iconst (v := 1) hx hb dL_law_637 (by decide) ?_
  refine lv_iadd hx hb dL_law_638 ?_
  refine x_sld (j := i + 1) hC hX hbl hbA hH (nI_add i 1) (by omega) hL dL_law_639 ?_
  refine x_lwC (As := [.int (xs (i + 1))]) (rest := []) hC hK hZ hA hl.1 hH (k_X11_settling l G aC σ (xs (i + 1)) h k iB.1 iB.2.1 iB.2.2.1.1 iB.2.2.1.2.1 (wo_of iB.2.2.1.2.1 iB.2.2.2.2) iB.2.2.1.bh) lk_L_89 rfl ⟨by omega, by omega⟩ ⟨by omega, by omega⟩ (Nat.le_of_ble_eq_true rfl) rfl dL_law_640 (fun H locs hH => ?_)
  refine lv_aload_n hx hb dL_law_643 rfl (lv_at hl 2 rfl) ?_
  refine lv_aload_n hx hb dL_law_644 rfl (lv_at hl 0 rfl) ?_
  refine lv_iload_n hx hb dL_law_645 rfl (lv_at hl 3 rfl) ?_
  refine lv_iconst (v := 1) hx hb dL_law_646 (by decide) ?_
  refine lv_iadd hx hb dL_law_647 ?_
  refine x_sld (j := i + 1) hC hX hbl hbA hH (nI_add i 1) (by omega) hL dL_law_648 ?_
  refine x_lwME (As := [.int (xs (i + 1))]) (rest := [.int _]) hC hK hZ hA hl.1 hH (k_X12_settling l G aM τ (xs (i + 1)) (bk h k (σ 8) (σ 9) (σ 10)) iB.2.2.2.1) lk_L_92 rfl ⟨by omega, by omega⟩ ⟨by omega, by omega⟩ (Nat.le_of_ble_eq_true rfl) rfl dL_law_649 (fun zX12 H locs hH => ?_)
  refine lv_icmp_eq (tgt := 854) hx hb dL_law_652 (by decide) (fun c_ => ?_) (fun c_ => absurd (congrArg (rfA _) (set_meet (β := (bk h k (σ 8) (σ 9) (σ 10))) iB.2.2.1.2.2.2.1 iX.2)) c_)
  exact kk _ _ _ _ _ (inv_ec _ _ _ (ifz_g (mgG_0 _ _ _ _)) hI) hH hl
set_option maxHeartbeats 4000000 in
set_option maxRecDepth 100000 in
theorem lwc_19 (hC : CallFix p m c cL_law 4 s args BG "BetsOnBetsLaw") (hK : Kx G s) (hZ : Zx G A s s.heap) (hA : ∀ q, s.heap.size ≤ q → A q) (hX : va_X b L xs s s.heap) (hbl : b < s.heap.size) (hbA : ¬ A b) (hL : L ≤ 2048) (hi : i + 4 ≤ L) (hRf : 12 ≤ R.frames) (hRl : 700 ≤ R.locals) (hRc : cells ≤ R.cells) (hRs : slots ≤ R.slots) (hI : INV σ τ) (hH : Hx G A (WC G aC σ ++ WM G aM τ) s.heap H locs) (hl : lv_has ls 4 [(0, .ref b), (1, .ref (aC 0)), (2, .ref (aM 0)), (3, .int (nI i))])
    (kk : ∀ (σ' τ' : Nat → Nat → Int32) (H : Heap) (locs : List Loc) (ls : Array Slot), INV σ' τ' → Hx G A (WC G aC σ' ++ WM G aM τ') s.heap H locs → lv_has ls 4 [(0, .ref b), (1, .ref (aC 0)), (2, .ref (aM 0)), (3, .int (nI i))] → W p l e R s m args below meth c H locs cells slots Q (F0 m 854 ls [])) : W p l e R s m args below meth c H locs cells slots Q (F0 m 657 ls []) := by
  have hx := hC.1
  have hb := hC.2.1
  obtain ⟨h, k, h2, k2, n, z, iB, iK, iL, iR, iX⟩ := id hI
  refine lv_aload_n hx hb dL_law_657 rfl (lv_at hl 1 rfl) ?_
  refine lv_aload_n hx hb dL_law_658 rfl (lv_at hl 0 rfl) ?_
  refine lv_iload_n hx hb dL_law_659 rfl (lv_at hl 3 rfl) ?_
  refine lv_iconst (v := 1) hx hb dL_law_660 (by decide) ?_
  refine lv_iadd hx hb dL_law_661 ?_
  refine x_sld (j := i + 1) hC hX hbl hbA hH (nI_add i 1) (by omega) hL dL_law_662 ?_
  refine x_lwC (As := [.int (xs (i + 1))]) (rest := []) hC hK hZ hA hl.1 hH (k_X11_cannotPay l G aC σ (xs (i + 1)) h k iB.1 iB.2.1 iB.2.2.1.1 iB.2.2.1.2.1 (wo_of iB.2.2.1.2.1 iB.2.2.2.2) iB.2.2.1.bh iB.2.2.1.2.2.2.2.1 iB.2.2.1.2.2.2.2.2) lk_L_93 rfl ⟨by omega, by omega⟩ ⟨by omega, by omega⟩ (Nat.le_of_ble_eq_true rfl) rfl dL_law_663 (fun H locs hH => ?_)
  refine lv_aload_n hx hb dL_law_666 rfl (lv_at hl 2 rfl) ?_
  refine lv_aload_n hx hb dL_law_667 rfl (lv_at hl 0 rfl) ?_
  refine lv_iload_n hx hb dL_law_668 rfl (lv_at hl 3 rfl) ?_
  refine lv_iconst (v := 1) hx hb dL_law_669 (by decide) ?_
  refine lv_iadd hx hb dL_law_670 ?_
  refine x_sld (j := i + 1) hC hX hbl hbA hH (nI_add i 1) (by omega) hL dL_law_671 ?_
  refine x_lwME (As := [.int (xs (i + 1))]) (rest := [.int _]) hC hK hZ hA hl.1 hH (k_X12_cannotPay l G aM τ (xs (i + 1)) (bk h k (σ 8) (σ 9) (σ 10)) iB.2.2.2.1) lk_L_96 rfl ⟨by omega, by omega⟩ ⟨by omega, by omega⟩ (Nat.le_of_ble_eq_true rfl) rfl dL_law_672 (fun zX12 H locs hH => ?_)
  refine lv_icmp_eq (tgt := 854) hx hb dL_law_675 (by decide) (fun c_ => ?_) (fun c_ => absurd rfl c_)
  exact kk _ _ _ _ _ (inv_ac _ _ hI) hH hl
set_option maxHeartbeats 4000000 in
set_option maxRecDepth 100000 in
theorem lwc_20 (hC : CallFix p m c cL_law 4 s args BG "BetsOnBetsLaw") (hK : Kx G s) (hZ : Zx G A s s.heap) (hA : ∀ q, s.heap.size ≤ q → A q) (hX : va_X b L xs s s.heap) (hbl : b < s.heap.size) (hbA : ¬ A b) (hL : L ≤ 2048) (hi : i + 4 ≤ L) (hRf : 12 ≤ R.frames) (hRl : 700 ≤ R.locals) (hRc : cells ≤ R.cells) (hRs : slots ≤ R.slots) (hI : INV σ τ) (hH : Hx G A (WC G aC σ ++ WM G aM τ) s.heap H locs) (hl : lv_has ls 4 [(0, .ref b), (1, .ref (aC 0)), (2, .ref (aM 0)), (3, .int (nI i))])
    (kk : ∀ (σ' τ' : Nat → Nat → Int32) (H : Heap) (locs : List Loc) (ls : Array Slot), INV σ' τ' → Hx G A (WC G aC σ' ++ WM G aM τ') s.heap H locs → lv_has ls 4 [(0, .ref b), (1, .ref (aC 0)), (2, .ref (aM 0)), (3, .int (nI i))] → W p l e R s m args below meth c H locs cells slots Q (F0 m 854 ls [])) : W p l e R s m args below meth c H locs cells slots Q (F0 m 680 ls []) := by
  have hx := hC.1
  have hb := hC.2.1
  obtain ⟨h, k, h2, k2, n, z, iB, iK, iL, iR, iX⟩ := id hI
  refine lv_aload_n hx hb dL_law_680 rfl (lv_at hl 1 rfl) ?_
  refine x_lwCE (As := []) (rest := []) hC hK hZ hA hl.1 hH (k_X11_rings l G aC σ h k iB.1 iB.2.1 iB.2.2.1.1 iB.2.2.1.2.1 iB.2.2.1.2.2.1) lk_L_97 rfl ⟨by omega, by omega⟩ ⟨by omega, by omega⟩ (Nat.le_of_ble_eq_true rfl) rfl dL_law_681 (fun zX11 H locs hH => ?_)
  refine lv_aload_n hx hb dL_law_684 rfl (lv_at hl 2 rfl) ?_
  refine x_lwM (As := []) (rest := [.int _]) hC hK hZ hA hl.1 hH (k_X12_rings l G aM τ (bk h k (σ 8) (σ 9) (σ 10)) iB.2.2.2.1) lk_L_100 rfl ⟨by omega, by omega⟩ ⟨by omega, by omega⟩ (Nat.le_of_ble_eq_true rfl) rfl dL_law_685 (fun H locs hH => ?_)
  refine lv_icmp_eq (tgt := 854) hx hb dL_law_688 (by decide) (fun c_ => ?_) (fun c_ => absurd (ring_meet (β := (bk h k (σ 8) (σ 9) (σ 10))) iB.2.2.1.2.1 iB.2.2.1.2.2.1) c_)
  exact kk _ _ _ _ _ (inv_db _ hI) hH hl
set_option maxHeartbeats 4000000 in
set_option maxRecDepth 100000 in
theorem lwc_21 (hC : CallFix p m c cL_law 4 s args BG "BetsOnBetsLaw") (hK : Kx G s) (hZ : Zx G A s s.heap) (hA : ∀ q, s.heap.size ≤ q → A q) (hX : va_X b L xs s s.heap) (hbl : b < s.heap.size) (hbA : ¬ A b) (hL : L ≤ 2048) (hi : i + 4 ≤ L) (hRf : 12 ≤ R.frames) (hRl : 700 ≤ R.locals) (hRc : cells ≤ R.cells) (hRs : slots ≤ R.slots) (hI : INV σ τ) (hH : Hx G A (WC G aC σ ++ WM G aM τ) s.heap H locs) (hl : lv_has ls 4 [(0, .ref b), (1, .ref (aC 0)), (2, .ref (aM 0)), (3, .int (nI i))])
    (kk : ∀ (σ' τ' : Nat → Nat → Int32) (H : Heap) (locs : List Loc) (ls : Array Slot), INV σ' τ' → Hx G A (WC G aC σ' ++ WM G aM τ') s.heap H locs → lv_has ls 4 [(0, .ref b), (1, .ref (aC 0)), (2, .ref (aM 0)), (3, .int (nI i))] → W p l e R s m args below meth c H locs cells slots Q (F0 m 854 ls [])) : W p l e R s m args below meth c H locs cells slots Q (F0 m 693 ls []) := by
  have hx := hC.1
  have hb := hC.2.1
  obtain ⟨h, k, h2, k2, n, z, iB, iK, iL, iR, iX⟩ := id hI
  refine lv_aload_n hx hb dL_law_693 rfl (lv_at hl 1 rfl) ?_
  refine lv_aload_n hx hb dL_law_694 rfl (lv_at hl 0 rfl) ?_
  refine lv_iload_n hx hb dL_law_695 rfl (lv_at hl 3 rfl) ?_
  refine lv_iconst (v := 1) hx hb dL_law_696 (by decide) ?_
  refine lv_iadd hx hb dL_law_697 ?_
  refine x_sld (j := i + 1) hC hX hbl hbA hH (nI_add i 1) (by omega) hL dL_law_698 ?_
  refine x_lwC (As := [.int (xs (i + 1))]) (rest := []) hC hK hZ hA hl.1 hH (k_X11_row l G aC σ (xs (i + 1)) z iR.1 iR.2.2.1) lk_L_101 rfl ⟨by omega, by omega⟩ ⟨by omega, by omega⟩ (Nat.le_of_ble_eq_true rfl) rfl dL_law_699 (fun H locs hH => ?_)
  refine lv_aload_n hx hb dL_law_702 rfl (lv_at hl 2 rfl) ?_
  refine lv_aload_n hx hb dL_law_703 rfl (lv_at hl 0 rfl) ?_
  refine lv_iload_n hx hb dL_law_704 rfl (lv_at hl 3 rfl) ?_
  refine lv_iconst (v := 1) hx hb dL_law_705 (by decide) ?_
  refine lv_iadd hx hb dL_law_706 ?_
  refine x_sld (j := i + 1) hC hX hbl hbA hH (nI_add i 1) (by omega) hL dL_law_707 ?_
  refine x_lwM (As := [.int (xs (i + 1))]) (rest := [.int _]) hC hK hZ hA hl.1 hH (k_X12_row l G aM τ (xs (i + 1)) z iR.2.1 iR.2.2.1) lk_L_104 rfl ⟨by omega, by omega⟩ ⟨by omega, by omega⟩ (Nat.le_of_ble_eq_true rfl) rfl dL_law_708 (fun H locs hH => ?_)
  refine lv_icmp_eq (tgt := 854) hx hb dL_law_711 (by decide) (fun c_ => ?_) (fun c_ => absurd rfl c_)
  exact kk _ _ _ _ _ (inv_row iB iK iL iR iX _) hH hl
set_option maxHeartbeats 4000000 in
set_option maxRecDepth 100000 in
theorem lwc_22 (hC : CallFix p m c cL_law 4 s args BG "BetsOnBetsLaw") (hK : Kx G s) (hZ : Zx G A s s.heap) (hA : ∀ q, s.heap.size ≤ q → A q) (hX : va_X b L xs s s.heap) (hbl : b < s.heap.size) (hbA : ¬ A b) (hL : L ≤ 2048) (hi : i + 4 ≤ L) (hRf : 12 ≤ R.frames) (hRl : 700 ≤ R.locals) (hRc : cells ≤ R.cells) (hRs : slots ≤ R.slots) (hI : INV σ τ) (hH : Hx G A (WC G aC σ ++ WM G aM τ) s.heap H locs) (hl : lv_has ls 4 [(0, .ref b), (1, .ref (aC 0)), (2, .ref (aM 0)), (3, .int (nI i))])
    (kk : ∀ (σ' τ' : Nat → Nat → Int32) (H : Heap) (locs : List Loc) (ls : Array Slot), INV σ' τ' → Hx G A (WC G aC σ' ++ WM G aM τ') s.heap H locs → lv_has ls 4 [(0, .ref b), (1, .ref (aC 0)), (2, .ref (aM 0)), (3, .int (nI i))] → W p l e R s m args below meth c H locs cells slots Q (F0 m 854 ls [])) : W p l e R s m args below meth c H locs cells slots Q (F0 m 716 ls []) := by
  have hx := hC.1
  have hb := hC.2.1
  obtain ⟨h, k, h2, k2, n, z, iB, iK, iL, iR, iX⟩ := id hI
  refine lv_aload_n hx hb dL_law_716 rfl (lv_at hl 1 rfl) ?_
  refine lv_aload_n hx hb dL_law_717 rfl (lv_at hl 0 rfl) ?_
  refine lv_iload_n hx hb dL_law_718 rfl (lv_at hl 3 rfl) ?_
  refine lv_iconst (v := 1) hx hb dL_law_719 (by decide) ?_
  refine lv_iadd hx hb dL_law_720 ?_
  refine x_sld (j := i + 1) hC hX hbl hbA hH (nI_add i 1) (by omega) hL dL_law_721 ?_
  refine x_lwC (As := [.int (xs (i + 1))]) (rest := []) hC hK hZ hA hl.1 hH (k_X11_fitting l G aC σ (xs (i + 1)) h k z iB.1 iB.2.1 iB.2.2.1.1 iB.2.2.1.2.1 (wo_of iB.2.2.1.2.1 iB.2.2.2.2) iB.2.2.1.bh iR.1 iR.2.2.1) lk_L_105 rfl ⟨by omega, by omega⟩ ⟨by omega, by omega⟩ (Nat.le_of_ble_eq_true rfl) rfl dL_law_722 (fun H locs hH => ?_)
  refine lv_aload_n hx hb dL_law_725 rfl (lv_at hl 2 rfl) ?_
  refine lv_aload_n hx hb dL_law_726 rfl (lv_at hl 0 rfl) ?_
  refine lv_iload_n hx hb dL_law_727 rfl (lv_at hl 3 rfl) ?_
  refine lv_iconst (v := 1) hx hb dL_law_728 (by decide) ?_
  refine lv_iadd hx hb dL_law_729 ?_
  refine x_sld (j := i + 1) hC hX hbl hbA hH (nI_add i 1) (by omega) hL dL_law_730 ?_
  refine x_lwME (As := [.int (xs (i + 1))]) (rest := [.int _]) hC hK hZ hA hl.1 hH (k_X12_fitting l G aM τ (xs (i + 1)) (bk h k (σ 8) (σ 9) (σ 10)) z iB.2.2.2.1 iR.2.1 iR.2.2.1) lk_L_108 rfl ⟨by omega, by omega⟩ ⟨by omega, by omega⟩ (Nat.le_of_ble_eq_true rfl) rfl dL_law_731 (fun zX12 H locs hH => ?_)
  refine lv_icmp_eq (tgt := 854) hx hb dL_law_734 (by decide) (fun c_ => ?_) (fun c_ => absurd (by rw [show σ 4 = τ 7 from iR.2.2.2]) c_)
  exact kk _ _ _ _ _ (inv_ac _ _ hI) hH hl
set_option maxHeartbeats 4000000 in
set_option maxRecDepth 100000 in
theorem lwc_23 (hC : CallFix p m c cL_law 4 s args BG "BetsOnBetsLaw") (hK : Kx G s) (hZ : Zx G A s s.heap) (hA : ∀ q, s.heap.size ≤ q → A q) (hX : va_X b L xs s s.heap) (hbl : b < s.heap.size) (hbA : ¬ A b) (hL : L ≤ 2048) (hi : i + 4 ≤ L) (hRf : 12 ≤ R.frames) (hRl : 700 ≤ R.locals) (hRc : cells ≤ R.cells) (hRs : slots ≤ R.slots) (hI : INV σ τ) (hH : Hx G A (WC G aC σ ++ WM G aM τ) s.heap H locs) (hl : lv_has ls 4 [(0, .ref b), (1, .ref (aC 0)), (2, .ref (aM 0)), (3, .int (nI i))])
    (kk : ∀ (σ' τ' : Nat → Nat → Int32) (H : Heap) (locs : List Loc) (ls : Array Slot), INV σ' τ' → Hx G A (WC G aC σ' ++ WM G aM τ') s.heap H locs → lv_has ls 4 [(0, .ref b), (1, .ref (aC 0)), (2, .ref (aM 0)), (3, .int (nI i))] → W p l e R s m args below meth c H locs cells slots Q (F0 m 854 ls [])) : W p l e R s m args below meth c H locs cells slots Q (F0 m 739 ls []) := by
  have hx := hC.1
  have hb := hC.2.1
  obtain ⟨h, k, h2, k2, n, z, iB, iK, iL, iR, iX⟩ := id hI
  refine lv_aload_n hx hb dL_law_739 rfl (lv_at hl 1 rfl) ?_
  refine lv_aload_n hx hb dL_law_740 rfl (lv_at hl 0 rfl) ?_
  refine lv_iload_n hx hb dL_law_741 rfl (lv_at hl 3 rfl) ?_
  refine lv_iconst (v := 1) hx hb dL_law_742 (by decide) ?_
  refine lv_iadd hx hb dL_law_743 ?_
  refine x_sld (j := i + 1) hC hX hbl hbA hH (nI_add i 1) (by omega) hL dL_law_744 ?_
  refine x_lwC (As := [.int (xs (i + 1))]) (rest := []) hC hK hZ hA hl.1 hH (k_X11_judge l G aC σ (xs (i + 1)) h k z iB.1 iB.2.1 iB.2.2.1.1 iB.2.2.1.2.1 (wo_of iB.2.2.1.2.1 iB.2.2.2.2) iB.2.2.1.bh iR.1 iR.2.2.1) lk_L_109 rfl ⟨by omega, by omega⟩ ⟨by omega, by omega⟩ (Nat.le_of_ble_eq_true rfl) rfl dL_law_745 (fun H locs hH => ?_)
  refine lv_aload_n hx hb dL_law_748 rfl (lv_at hl 2 rfl) ?_
  refine lv_aload_n hx hb dL_law_749 rfl (lv_at hl 0 rfl) ?_
  refine lv_iload_n hx hb dL_law_750 rfl (lv_at hl 3 rfl) ?_
  refine lv_iconst (v := 1) hx hb dL_law_751 (by decide) ?_
  refine lv_iadd hx hb dL_law_752 ?_
  refine x_sld (j := i + 1) hC hX hbl hbA hH (nI_add i 1) (by omega) hL dL_law_753 ?_
  refine x_lwME (As := [.int (xs (i + 1))]) (rest := [.int _]) hC hK hZ hA hl.1 hH (k_X12_judge l G aM τ (xs (i + 1)) (bk h k (σ 8) (σ 9) (σ 10)) z iB.2.2.2.1 iR.2.1 iR.2.2.1) lk_L_112 rfl ⟨by omega, by omega⟩ ⟨by omega, by omega⟩ (Nat.le_of_ble_eq_true rfl) rfl dL_law_754 (fun zX12 H locs hH => ?_)
  refine lv_icmp_eq (tgt := 854) hx hb dL_law_757 (by decide) (fun c_ => ?_) (fun c_ => absurd (by rw [show σ 4 = τ 7 from iR.2.2.2]; rfl) c_)
  exact kk _ _ _ _ _ (inv_judge iB iK iL iR iX _ _) hH hl
set_option maxHeartbeats 4000000 in
set_option maxRecDepth 100000 in
theorem lwc_24 (hC : CallFix p m c cL_law 4 s args BG "BetsOnBetsLaw") (hK : Kx G s) (hZ : Zx G A s s.heap) (hA : ∀ q, s.heap.size ≤ q → A q) (hX : va_X b L xs s s.heap) (hbl : b < s.heap.size) (hbA : ¬ A b) (hL : L ≤ 2048) (hi : i + 4 ≤ L) (hRf : 12 ≤ R.frames) (hRl : 700 ≤ R.locals) (hRc : cells ≤ R.cells) (hRs : slots ≤ R.slots) (hI : INV σ τ) (hH : Hx G A (WC G aC σ ++ WM G aM τ) s.heap H locs) (hl : lv_has ls 4 [(0, .ref b), (1, .ref (aC 0)), (2, .ref (aM 0)), (3, .int (nI i))])
    (kk : ∀ (σ' τ' : Nat → Nat → Int32) (H : Heap) (locs : List Loc) (ls : Array Slot), INV σ' τ' → Hx G A (WC G aC σ' ++ WM G aM τ') s.heap H locs → lv_has ls 4 [(0, .ref b), (1, .ref (aC 0)), (2, .ref (aM 0)), (3, .int (nI i))] → W p l e R s m args below meth c H locs cells slots Q (F0 m 854 ls [])) : W p l e R s m args below meth c H locs cells slots Q (F0 m 762 ls []) := by
  have hx := hC.1
  have hb := hC.2.1
  obtain ⟨h, k, h2, k2, n, z, iB, iK, iL, iR, iX⟩ := id hI
  refine lv_aload_n hx hb dL_law_762 rfl (lv_at hl 1 rfl) ?_
  refine lv_aload_n hx hb dL_law_763 rfl (lv_at hl 0 rfl) ?_
  refine lv_iload_n hx hb dL_law_764 rfl (lv_at hl 3 rfl) ?_
  refine lv_iconst (v := 1) hx hb dL_law_765 (by decide) ?_
  refine lv_iadd hx hb dL_law_766 ?_
  refine x_sld (j := i + 1) hC hX hbl hbA hH (nI_add i 1) (by omega) hL dL_law_767 ?_
  refine lv_aload_n hx hb dL_law_768 rfl (lv_at hl 0 rfl) ?_
  refine lv_iload_n hx hb dL_law_769 rfl (lv_at hl 3 rfl) ?_
  refine lv_iconst (v := 2) hx hb dL_law_770 (by decide) ?_
  refine lv_iadd hx hb dL_law_771 ?_
  refine x_sld (j := i + 2) hC hX hbl hbA hH (nI_add i 2) (by omega) hL dL_law_772 ?_
  refine lv_aload_n hx hb dL_law_773 rfl (lv_at hl 0 rfl) ?_
  refine lv_iload_n hx hb dL_law_774 rfl (lv_at hl 3 rfl) ?_
  refine lv_iconst (v := 3) hx hb dL_law_775 (by decide) ?_
  refine lv_iadd hx hb dL_law_776 ?_
  refine x_sld (j := i + 3) hC hX hbl hbA hH (nI_add i 3) (by omega) hL dL_law_777 ?_
  refine x_lwC (As := [.int (xs (i + 1)), .int (xs (i + 2)), .int (xs (i + 3))]) (rest := []) hC hK hZ hA hl.1 hH (k_X11_seeds l G aC σ (xs (i + 1)) (xs (i + 2)) (xs (i + 3)) h k iB.1 iB.2.1 iB.2.2.1.1 iB.2.2.1.2.1 (wo_of iB.2.2.1.2.1 iB.2.2.2.2) iB.2.2.1.bh) lk_L_113 rfl ⟨by omega, by omega⟩ ⟨by omega, by omega⟩ (Nat.le_of_ble_eq_true rfl) rfl dL_law_778 (fun H locs hH => ?_)
  refine lv_aload_n hx hb dL_law_781 rfl (lv_at hl 2 rfl) ?_
  refine lv_aload_n hx hb dL_law_782 rfl (lv_at hl 0 rfl) ?_
  refine lv_iload_n hx hb dL_law_783 rfl (lv_at hl 3 rfl) ?_
  refine lv_iconst (v := 1) hx hb dL_law_784 (by decide) ?_
  refine lv_iadd hx hb dL_law_785 ?_
  refine x_sld (j := i + 1) hC hX hbl hbA hH (nI_add i 1) (by omega) hL dL_law_786 ?_
  refine lv_aload_n hx hb dL_law_787 rfl (lv_at hl 0 rfl) ?_
  refine lv_iload_n hx hb dL_law_788 rfl (lv_at hl 3 rfl) ?_
  refine lv_iconst (v := 2) hx hb dL_law_789 (by decide) ?_
  refine lv_iadd hx hb dL_law_790 ?_
  refine x_sld (j := i + 2) hC hX hbl hbA hH (nI_add i 2) (by omega) hL dL_law_791 ?_
  refine lv_aload_n hx hb dL_law_792 rfl (lv_at hl 0 rfl) ?_
  refine lv_iload_n hx hb dL_law_793 rfl (lv_at hl 3 rfl) ?_
  refine lv_iconst (v := 3) hx hb dL_law_794 (by decide) ?_
  refine lv_iadd hx hb dL_law_795 ?_
  refine x_sld (j := i + 3) hC hX hbl hbA hH (nI_add i 3) (by omega) hL dL_law_796 ?_
  refine x_lwME (As := [.int (xs (i + 1)), .int (xs (i + 2)), .int (xs (i + 3))]) (rest := [.int _]) hC hK hZ hA hl.1 hH (k_X12_seeds l G aM τ (xs (i + 1)) (xs (i + 2)) (xs (i + 3)) (bk h k (σ 8) (σ 9) (σ 10)) iB.2.2.2.1) lk_L_116 rfl ⟨by omega, by omega⟩ ⟨by omega, by omega⟩ (Nat.le_of_ble_eq_true rfl) rfl dL_law_797 (fun zX12 H locs hH => ?_)
  refine lv_icmp_eq (tgt := 854) hx hb dL_law_800 (by decide) (fun c_ => ?_) (fun c_ => absurd rfl c_)
  exact kk _ _ _ _ _ (inv_ac _ _ hI) hH hl
set_option maxHeartbeats 4000000 in
set_option maxRecDepth 100000 in
theorem lwc_25 (hC : CallFix p m c cL_law 4 s args BG "BetsOnBetsLaw") (hK : Kx G s) (hZ : Zx G A s s.heap) (hA : ∀ q, s.heap.size ≤ q → A q) (hX : va_X b L xs s s.heap) (hbl : b < s.heap.size) (hbA : ¬ A b) (hL : L ≤ 2048) (hi : i + 4 ≤ L) (hRf : 12 ≤ R.frames) (hRl : 700 ≤ R.locals) (hRc : cells ≤ R.cells) (hRs : slots ≤ R.slots) (hI : INV σ τ) (hH : Hx G A (WC G aC σ ++ WM G aM τ) s.heap H locs) (hl : lv_has ls 4 [(0, .ref b), (1, .ref (aC 0)), (2, .ref (aM 0)), (3, .int (nI i))])
    (kk : ∀ (σ' τ' : Nat → Nat → Int32) (H : Heap) (locs : List Loc) (ls : Array Slot), INV σ' τ' → Hx G A (WC G aC σ' ++ WM G aM τ') s.heap H locs → lv_has ls 4 [(0, .ref b), (1, .ref (aC 0)), (2, .ref (aM 0)), (3, .int (nI i))] → W p l e R s m args below meth c H locs cells slots Q (F0 m 854 ls [])) : W p l e R s m args below meth c H locs cells slots Q (F0 m 805 ls []) := by
  have hx := hC.1
  have hb := hC.2.1
  obtain ⟨h, k, h2, k2, n, z, iB, iK, iL, iR, iX⟩ := id hI
  refine lv_aload_n hx hb dL_law_805 rfl (lv_at hl 1 rfl) ?_
  refine x_lwC (As := []) (rest := []) hC hK hZ hA hl.1 hH (k_X11_image l G aC σ h k iB.1 iB.2.1 iB.2.2.1.1 iB.2.2.1.2.1) lk_L_117 rfl ⟨by omega, by omega⟩ ⟨by omega, by omega⟩ (Nat.le_of_ble_eq_true rfl) rfl dL_law_806 (fun H locs hH => ?_)
  refine lv_aload_n hx hb dL_law_809 rfl (lv_at hl 2 rfl) ?_
  refine x_lwM (As := []) (rest := [.int _]) hC hK hZ hA hl.1 hH (k_X12_image l G aM τ (bk h k (σ 8) (σ 9) (σ 10)) iB.2.2.2.1) lk_L_120 rfl ⟨by omega, by omega⟩ ⟨by omega, by omega⟩ (Nat.le_of_ble_eq_true rfl) rfl dL_law_810 (fun H locs hH => ?_)
  refine lv_icmp_eq (tgt := 854) hx hb dL_law_813 (by decide) (fun c_ => ?_) (fun c_ => absurd rfl c_)
  exact kk _ _ _ _ _ (inv_image (h2 := h2) (k2 := k2) iB iL iR iX) hH hl
set_option maxHeartbeats 4000000 in
set_option maxRecDepth 100000 in
theorem lwc_26 (hC : CallFix p m c cL_law 4 s args BG "BetsOnBetsLaw") (hK : Kx G s) (hZ : Zx G A s s.heap) (hA : ∀ q, s.heap.size ≤ q → A q) (hX : va_X b L xs s s.heap) (hbl : b < s.heap.size) (hbA : ¬ A b) (hL : L ≤ 2048) (hi : i + 4 ≤ L) (hRf : 12 ≤ R.frames) (hRl : 700 ≤ R.locals) (hRc : cells ≤ R.cells) (hRs : slots ≤ R.slots) (hI : INV σ τ) (hH : Hx G A (WC G aC σ ++ WM G aM τ) s.heap H locs) (hl : lv_has ls 4 [(0, .ref b), (1, .ref (aC 0)), (2, .ref (aM 0)), (3, .int (nI i))])
    (kk : ∀ (σ' τ' : Nat → Nat → Int32) (H : Heap) (locs : List Loc) (ls : Array Slot), INV σ' τ' → Hx G A (WC G aC σ' ++ WM G aM τ') s.heap H locs → lv_has ls 4 [(0, .ref b), (1, .ref (aC 0)), (2, .ref (aM 0)), (3, .int (nI i))] → W p l e R s m args below meth c H locs cells slots Q (F0 m 854 ls [])) : W p l e R s m args below meth c H locs cells slots Q (F0 m 818 ls []) := by
  have hx := hC.1
  have hb := hC.2.1
  obtain ⟨h, k, h2, k2, n, z, iB, iK, iL, iR, iX⟩ := id hI
  refine lv_aload_n hx hb dL_law_818 rfl (lv_at hl 1 rfl) ?_
  refine x_lwC (As := []) (rest := []) hC hK hZ hA hl.1 hH (k_X11_on l G aC σ h2 k2 iK.2.1 iK.2.2.1 iK.2.2.2.1.1 iK.2.2.2.1.2.1 iK.2.2.2.1.2.2.1) lk_L_121 rfl ⟨by omega, by omega⟩ ⟨by omega, by omega⟩ (Nat.le_of_ble_eq_true rfl) rfl dL_law_819 (fun H locs hH => ?_)
  refine lv_aload_n hx hb dL_law_822 rfl (lv_at hl 2 rfl) ?_
  refine x_lwM (As := []) (rest := [.int _]) hC hK hZ hA hl.1 hH (k_X12_on l G aM τ) lk_L_124 rfl ⟨by omega, by omega⟩ ⟨by omega, by omega⟩ (Nat.le_of_ble_eq_true rfl) rfl dL_law_823 (fun H locs hH => ?_)
  refine lv_icmp_eq (tgt := 854) hx hb dL_law_826 (by decide) (fun c_ => ?_) (fun c_ => absurd (on_ans iK) c_)
  exact kk _ _ _ _ _ (inv_on iB iK iL iR iX) hH hl
set_option maxHeartbeats 4000000 in
set_option maxRecDepth 100000 in
theorem lwc_27 (hC : CallFix p m c cL_law 4 s args BG "BetsOnBetsLaw") (hK : Kx G s) (hZ : Zx G A s s.heap) (hA : ∀ q, s.heap.size ≤ q → A q) (hX : va_X b L xs s s.heap) (hbl : b < s.heap.size) (hbA : ¬ A b) (hL : L ≤ 2048) (hi : i + 4 ≤ L) (hRf : 12 ≤ R.frames) (hRl : 700 ≤ R.locals) (hRc : cells ≤ R.cells) (hRs : slots ≤ R.slots) (hI : INV σ τ) (hH : Hx G A (WC G aC σ ++ WM G aM τ) s.heap H locs) (hl : lv_has ls 4 [(0, .ref b), (1, .ref (aC 0)), (2, .ref (aM 0)), (3, .int (nI i))])
    (kk : ∀ (σ' τ' : Nat → Nat → Int32) (H : Heap) (locs : List Loc) (ls : Array Slot), INV σ' τ' → Hx G A (WC G aC σ' ++ WM G aM τ') s.heap H locs → lv_has ls 4 [(0, .ref b), (1, .ref (aC 0)), (2, .ref (aM 0)), (3, .int (nI i))] → W p l e R s m args below meth c H locs cells slots Q (F0 m 854 ls [])) : W p l e R s m args below meth c H locs cells slots Q (F0 m 831 ls []) := by
  have hx := hC.1
  have hb := hC.2.1
  obtain ⟨h, k, h2, k2, n, z, iB, iK, iL, iR, iX⟩ := id hI
  refine lv_aload_n hx hb dL_law_831 rfl (lv_at hl 1 rfl) ?_
  refine lv_aload_n hx hb dL_law_832 rfl (lv_at hl 0 rfl) ?_
  refine lv_iload_n hx hb dL_law_833 rfl (lv_at hl 3 rfl) ?_
  refine lv_iconst (v := 1) hx hb dL_law_834 (by decide) ?_
  refine lv_iadd hx hb dL_law_835 ?_
  refine x_sld (j := i + 1) hC hX hbl hbA hH (nI_add i 1) (by omega) hL dL_law_836 ?_
  refine x_lwC (As := [.int (xs (i + 1))]) (rest := []) hC hK hZ hA hl.1 hH (k_X11_count l G aC σ (xs (i + 1)) h k iB.1 iB.2.1 iB.2.2.1.1 iB.2.2.1.2.1) lk_L_125 rfl ⟨by omega, by omega⟩ ⟨by omega, by omega⟩ (Nat.le_of_ble_eq_true rfl) rfl dL_law_837 (fun H locs hH => ?_)
  refine lv_aload_n hx hb dL_law_840 rfl (lv_at hl 2 rfl) ?_
  refine lv_aload_n hx hb dL_law_841 rfl (lv_at hl 0 rfl) ?_
  refine lv_iload_n hx hb dL_law_842 rfl (lv_at hl 3 rfl) ?_
  refine lv_iconst (v := 1) hx hb dL_law_843 (by decide) ?_
  refine lv_iadd hx hb dL_law_844 ?_
  refine x_sld (j := i + 1) hC hX hbl hbA hH (nI_add i 1) (by omega) hL dL_law_845 ?_
  refine x_lwM (As := [.int (xs (i + 1))]) (rest := [.int _]) hC hK hZ hA hl.1 hH (k_X12_count l G aM τ (xs (i + 1)) (bk h k (σ 8) (σ 9) (σ 10)) iB.2.2.2.1) lk_L_128 rfl ⟨by omega, by omega⟩ ⟨by omega, by omega⟩ (Nat.le_of_ble_eq_true rfl) rfl dL_law_846 (fun H locs hH => ?_)
  refine lv_icmp_eq (tgt := 854) hx hb dL_law_849 (by decide) (fun c_ => ?_) (fun c_ => absurd (by rw [show σ 31 = τ 1 from iX.1, iR.1, iR.2.1, iL.1, iL.2.1]) c_)
  exact kk _ _ _ _ _ (hI) hH hl
end XLC
