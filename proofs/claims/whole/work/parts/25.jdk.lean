/-! the class: texts of the JDK: indexOf over the literals -/
theorem sLenN : ∀ k, k < 6 → sLen.getD k 0 = (sByt.getD k []).length := by decide
theorem sLen10 : ∀ k, k < 6 → sLen.getD k 0 < 11 := by decide
theorem sLenP : ∀ k, k < 6 → 0 < sLen.getD k 0 := by decide
theorem sLenSh : ∀ k, k < 6 → nI (sLen.getD k 0) >>> ((0 : Int32) &&& 31) = nI (sLen.getD k 0) := by decide
def ixF (c : Int32) : List Int32 → Nat → Int32
  | [], _ => -1
  | b :: l, k => if b = c then nI k else ixF c l (k + 1)
def ixA (k : Nat) (c : Int32) : Int32 := ixF c (sByt.getD k []) 0
def ixD (k : Nat) (c : Int32) (i : Nat) : Int32 := ixF c ((sByt.getD k []).drop i) i
theorem ixD_0 (k : Nat) (c : Int32) : ixD k c 0 = ixA k c := rfl
theorem ixD_s {k i : Nat} {c : Int32} (hk : k < 6) (hi : i < sLen.getD k 0) : ixD k c i = if (sByt.getD k []).getD i 0 = c then nI i else ixD k c (i + 1) := by
  have hi2 : i < (sByt.getD k []).length := by rw [← sLenN k hk]; exact hi
  unfold ixD
  have e : (sByt.getD k []).getD i 0 = (sByt.getD k [])[i] := by
    rw [@List.getD_eq_getElem?_getD _ (sByt.getD k []) i 0, List.getElem?_eq_getElem hi2]
    rfl
  rw [List.drop_eq_getElem_cons hi2, ixF, e]
theorem ixD_e {k i : Nat} {c : Int32} (hk : k < 6) (hi : sLen.getD k 0 ≤ i) : ixD k c i = -1 := by
  unfold ixD
  rw [List.drop_eq_nil_of_le (by rw [← sLenN k hk]; exact hi)]
  rfl
theorem ixB : ∀ k, k < 6 → ∀ i, i < 10 → ∀ c, c < 256 → decide ((sByt.getD k []).getD i 0 = (nI c).toInt8.toInt32) = decide ((sByt.getD k []).getD i 0 = nI c) := by decide +kernel
theorem ixBi {k i c : Nat} (hk : k < 6) (hi : i < sLen.getD k 0) (hc : c < 256) : (sByt.getD k []).getD i 0 = (nI c).toInt8.toInt32 ↔ (sByt.getD k []).getD i 0 = nI c := by
  have h := ixB k hk i (by have := sLen10 k hk; omega) c hc
  exact decide_eq_decide.mp h
theorem ixD_t {k i cj : Nat} {c : Int32} (hk : k < 6) (hi : i < sLen.getD k 0) (hc : cj < 256) (e : c = nI cj) (h : (sByt.getD k []).getD i 0 = c.toInt8.toInt32) : ixD k c i = nI i := by
  subst e
  rw [ixD_s hk hi, if_pos ((ixBi hk hi hc).mp h)]
theorem ixD_f {k i cj : Nat} {c : Int32} (hk : k < 6) (hi : i < sLen.getD k 0) (hc : cj < 256) (e : c = nI cj) (h : ¬ (sByt.getD k []).getD i 0 = c.toInt8.toInt32) : ixD k c i = ixD k c (i + 1) := by
  subst e
  rw [ixD_s hk hi, if_neg (fun z => h ((ixBi hk hi hc).mpr z))]
def mn32 (a b : Int32) : Int32 := if b < a then b else a
theorem mn32_s (a : Int32) : mn32 a a = a := by unfold mn32; split <;> rfl
theorem e9_min : yJ9_min_7cf53 = Lib.Math.min.name := by decide +kernel
theorem e9_minc : cJ9_min_7cf53 = Lib.Math.min.code := by decide +kernel
section X9S
variable {p : Program} {l : Launch} {e : Env} {R : Room} {s : State} {m : MethodId} {args : Array Value} {below : List Frame} {meth : Method} {c : Code} {H : Heap} {locs : List Loc} {cells slots : Nat} {Q : State → Prop} {cc : ByteArray} {pc : Nat} {ls : Array Slot} {nL : Nat} {own : String} {G : GP} {A : Nat → Prop} {ws wc wc' ws' : va_W} {y : MethodName} {bytes : ByteArray} {maxL : Nat} {ret : Option FieldType} {d : Nat} {As : List Value} {ov : Option Value}
theorem x_min {idx : Nat} {a b : Int32} {rest : List Value} (hC : CallFix p m c cc nL s args BG own) (hl : ls.size = nL) (hL : (Cond.methodLink own idx yJ9_min_7cf53) ∈ BG) (hroom : 0 + 1 ≤ R.frames ∧ 8 + (2 + 11) + 40 * 0 ≤ R.locals) (hcs : cells + 0 ≤ R.cells ∧ slots + 0 ≤ R.slots) (hrest : (rest.map fun v => v.category).sum ≤ 8) (hdg : decode cc pc = .ok (.invokestatic idx, 3))
    (kk : W p l e R s m args below meth c H locs cells slots Q (F0 m (pc + 3) ls (.int (mn32 a b) :: rest))) : W p l e R s m args below meth c H locs cells slots Q (F0 m pc ls (.int b :: .int a :: rest)) := by
  intro T hT X
  have w1 := hC.2.2.2.2 _ hL
  have w2 := hC.2.2.2.2 _ wd_344
  have w3 := hC.2.2.2.2 _ wd_58
  have w4 := hC.2.2.2.2 _ wd_345
  rw [e9_min] at w1 w2 w4
  rw [e9_minc] at w4
  obtain ⟨vm', X', st⟩ := mathMinH X hC.1 hC.2.2.2.1 w1 w2 w3 w4 (g := F0 m pc ls (.int b :: .int a :: rest)) rfl (by show ls.size = c.maxLocals; rw [hl, hC.2.2.1]) rfl (by rw [hC.2.1]; exact hdg) (by omega) (by have := lv_room (m := m) (pc := pc) (ls := ls) (rest := rest) hrest; show 2 * (F0 m pc ls rest).monitorRoom + _ + 13 ≤ _; omega) (by omega) (by omega)
  obtain ⟨t2, a1, b1⟩ := kk (T.setVm vm') hT X'
  exact ⟨t2, st t2 a1, b1⟩
theorem x_scod {rest : List Value} {k : Nat} (hC : CallFix p m c cc nL s args BG "java/lang/String") (hZ : Zx G A s s.heap) (hH : Hx G A ws s.heap H locs) (hk : k < 6) (hdg : decode cc pc = .ok (.getfield 15, 3))
    (kk : W p l e R s m args below meth c H locs cells slots Q (F0 m (pc + 3) ls (.int 0 :: rest))) : W p l e R s m args below meth c H locs cells slots Q (F0 m pc ls (.ref (G.2.2.1 k) :: rest)) :=
  vk_getf hC.1 hC.2.1 (hZ.1.1 k hk).2.1 hH.2.2 hC.2.2.2.1 (hC.2.2.2.2 _ wd_1071) (fun _ h => h) hdg kk
theorem x_sval {rest : List Value} {k : Nat} (hC : CallFix p m c cc nL s args BG "java/lang/String") (hZ : Zx G A s s.heap) (hH : Hx G A ws s.heap H locs) (hk : k < 6) (hdg : decode cc pc = .ok (.getfield 9, 3))
    (kk : W p l e R s m args below meth c H locs cells slots Q (F0 m (pc + 3) ls (.ref (G.2.2.2 k) :: rest))) : W p l e R s m args below meth c H locs cells slots Q (F0 m pc ls (.ref (G.2.2.1 k) :: rest)) :=
  vk_getf hC.1 hC.2.1 (hZ.1.1 k hk).2.2.1 hH.2.2 hC.2.2.2.1 (hC.2.2.2.2 _ wd_1072) (fun _ h => h) hdg kk
theorem x_scs {rest : List Value} (hC : CallFix p m c cc nL s args BG "java/lang/String") (hZ : Zx G A s s.heap) (hH : Hx G A ws s.heap H locs) (hdg : decode cc pc = .ok (.getstatic 38, 3))
    (kk : W p l e R s m args below meth c H locs cells slots Q (F0 m (pc + 3) ls (.int 1 :: rest))) : W p l e R s m args below meth c H locs cells slots Q (F0 m pc ls rest) :=
  va_gets hC.1 hC.2.1 hZ.2 hH.2.2 hC.2.2.2.1 (hC.2.2.2.2 _ wd_326) (fun _ h => h) hdg kk
theorem x_slen {rest : List Value} {k : Nat} (hC : CallFix p m c cc nL s args BG own) (hZ : Zx G A s s.heap) (hH : Hx G A ws s.heap H locs) (hk : k < 6) (hdg : decode cc pc = .ok (.arraylength, 1))
    (kk : W p l e R s m args below meth c H locs cells slots Q (F0 m (pc + 1) ls (.int (nI (sLen.getD k 0)) :: rest))) : W p l e R s m args below meth c H locs cells slots Q (F0 m pc ls (.ref (G.2.2.2 k) :: rest)) :=
  va_tlen hC.1 hC.2.1 (hZ.1.1 k hk).2.2.2 hH.2.2 rfl hdg kk
theorem x_sbal {rest : List Value} {k j : Nat} (hC : CallFix p m c cc nL s args BG own) (hZ : Zx G A s s.heap) (hH : Hx G A ws s.heap H locs) (hk : k < 6) (hj : j < sLen.getD k 0) (hdg : decode cc pc = .ok (.baload, 1))
    (kk : W p l e R s m args below meth c H locs cells slots Q (F0 m (pc + 1) ls (.int ((sByt.getD k []).getD j 0) :: rest))) : W p l e R s m args below meth c H locs cells slots Q (F0 m pc ls (.int (nI j) :: .ref (G.2.2.2 k) :: rest)) :=
  va_tb hC.1 hC.2.1 (hZ.1.1 k hk).2.2.2 hH.2.2 (vp_in_nI hj (by have := sLen10 k hk; omega)) (by rw [nI_clamp (by have := sLen10 k hk; omega)]) hdg kk
theorem x_ldcS {rest : List Value} (k : Nat) (hC : CallFix p m c cc nL s args BG "BetsOnBets$Reader") (hK : Kx G s) (hk : k < 6) (hdg : decode cc pc = .ok (.ldc (sIdx.getD k 0), 2))
    (kk : W p l e R s m args below meth c H locs cells slots Q (F0 m (pc + 2) ls (.ref (G.2.2.1 k) :: rest))) : W p l e R s m args below meth c H locs cells slots Q (F0 m pc ls rest) :=
  va_ldcS hC.1 hC.2.1 hC.2.2.2.1 (hK.2.2.1 k hk) hdg kk
theorem x_callVS {k idx n : Nat} {rest st' : List Value} (hC : CallFix p m c cc nL s args BG own) (hK : Kx G s) (hZ : Zx G A s s.heap) (hA : ∀ q, s.heap.size ≤ q → A q) (hl : ls.size = nL) (hH : Hx G A ws s.heap H locs) (hk : k < 6) (hM : CT l G y bytes maxL ret d (.ref (G.2.2.1 k) :: As) wc ov wc') (lk : xLV own idx "java/lang/String" y bytes maxL ret n) (isC : List Nat) (hCm : isC.map (fun i => ws[i]?) = wc.map some) (hnd : va_nd isC = true) (hov : ovr ws isC wc' = ws')
    (hn : As.length = n) (hroom : d + 1 ≤ R.frames ∧ 8 + (maxL + 11) + 40 * d ≤ R.locals) (hcs : cells + 0 ≤ R.cells ∧ slots + 0 ≤ R.slots) (hrest : (rest.map fun v => v.category).sum ≤ 8) (hst : ov.toList ++ rest = st') (hdg : decode cc pc = .ok (.invokevirtual idx, 3))
    (kk : ∀ (H1 : Heap) (locs1 : List Loc), Hx G A ws' s.heap H1 locs1 → W p l e R s m args below meth c H1 locs1 cells slots Q (F0 m (pc + 3) ls st')) : W p l e R s m args below meth c H locs cells slots Q (F0 m pc ls (As.reverse ++ .ref (G.2.2.1 k) :: rest)) := by
  subst hst
  obtain ⟨hf, hpre⟩ := x_pre isC hK hZ hA hH hCm hnd (.ref (G.2.2.1 k) :: As)
  exact x_run isC hH hCm hM.1 hov hf (va_runV (As := As) (rest := rest) hC (hM.2 H.size) (cwV n hC.2.2.2.2 lk.1 rfl rfl rfl lk.2 hroom) ⟨PreX.blind, vk_recv hZ.1 hk hH.2.2, hpre⟩ rfl hn hl rfl (lv_room hrest) hdg hcs) kk
end X9S
set_option maxHeartbeats 4000000 in
set_option maxRecDepth 100000 in
theorem k_J0_coder_7d493 (l : Launch) (G : GP) (ad : Nat → Nat) (σ : Nat → Nat → Int32) (k : Nat) (hk : k < 6) : CT l G yJ0_coder_7d493 cJ0_coder_7d493 1 (some .byte) 0 [.ref (G.2.2.1 k)] (WE G ad σ) (some (.int 0)) (WE G ad σ) := by
  refine x_meth "java/lang/String" rfl (by decide +kernel) (by rfl) (Nat.le_of_ble_eq_true rfl) ?_
  intro pP eE sS mM args below meth cC A ls hC hr hkL hK hZ hA hH hl
  have hx := hC.1
  have hb := hC.2.1
  have hl : lv_has ls 1 [(0, .ref (G.2.2.1 k))] := hl
  refine x_scs hC hZ hH dJ0_coder_7d493_0 ?_
  refine lv_if_eq (tgt := 13) hx hb dJ0_coder_7d493_3 (by decide) (fun c3 => ?_) (fun c3 => ?_)
  · exact absurd c3 (by decide)
  refine lv_aload_n hx hb dJ0_coder_7d493_6 rfl (lv_at hl 0 rfl) ?_
  refine x_scod (k := k) hC hZ hH hk dJ0_coder_7d493_7 ?_
  refine lv_goto (tgt := 14) hx hb dJ0_coder_7d493_10 (by decide) ?_
  exact x_zret hC hr hkL hH rfl rfl rfl dJ0_coder_7d493_14
set_option maxHeartbeats 4000000 in
set_option maxRecDepth 100000 in
theorem k_J0_isLatin1_aae02 (l : Launch) (G : GP) (ad : Nat → Nat) (σ : Nat → Nat → Int32) (k : Nat) (hk : k < 6) : CT l G yJ0_isLatin1_aae02 cJ0_isLatin1_aae02 1 (some .boolean) 0 [.ref (G.2.2.1 k)] (WE G ad σ) (some (.int 1)) (WE G ad σ) := by
  refine x_meth "java/lang/String" rfl (by decide +kernel) (by rfl) (Nat.le_of_ble_eq_true rfl) ?_
  intro pP eE sS mM args below meth cC A ls hC hr hkL hK hZ hA hH hl
  have hx := hC.1
  have hb := hC.2.1
  have hl : lv_has ls 1 [(0, .ref (G.2.2.1 k))] := hl
  refine x_scs hC hZ hH dJ0_isLatin1_aae02_0 ?_
  refine lv_if_eq (tgt := 17) hx hb dJ0_isLatin1_aae02_3 (by decide) (fun c3 => ?_) (fun c3 => ?_)
  · exact absurd c3 (by decide)
  refine lv_aload_n hx hb dJ0_isLatin1_aae02_6 rfl (lv_at hl 0 rfl) ?_
  refine x_scod (k := k) hC hZ hH hk dJ0_isLatin1_aae02_7 ?_
  refine lv_if_ne (tgt := 17) hx hb dJ0_isLatin1_aae02_10 (by decide) (fun c10 => ?_) (fun c10 => ?_)
  · exact absurd c10 (by decide)
  refine lv_iconst (v := 1) hx hb dJ0_isLatin1_aae02_13 (by decide) ?_
  refine lv_goto (tgt := 18) hx hb dJ0_isLatin1_aae02_14 (by decide) ?_
  exact x_zret hC hr hkL hH rfl rfl rfl dJ0_isLatin1_aae02_18
set_option maxHeartbeats 4000000 in
set_option maxRecDepth 100000 in
theorem k_J0_length_8abf5 (l : Launch) (G : GP) (ad : Nat → Nat) (σ : Nat → Nat → Int32) (k : Nat) (hk : k < 6) : CT l G yJ0_length_8abf5 cJ0_length_8abf5 1 (some .int) 1 [.ref (G.2.2.1 k)] (WE G ad σ) (some (.int (nI (sLen.getD k 0)))) (WE G ad σ) := by
  refine x_meth "java/lang/String" rfl (by decide +kernel) (by rfl) (Nat.le_of_ble_eq_true rfl) ?_
  intro pP eE sS mM args below meth cC A ls hC hr hkL hK hZ hA hH hl
  have hx := hC.1
  have hb := hC.2.1
  have hl : lv_has ls 1 [(0, .ref (G.2.2.1 k))] := hl
  refine lv_aload_n hx hb dJ0_length_8abf5_0 rfl (lv_at hl 0 rfl) ?_
  refine x_sval (k := k) hC hZ hH hk dJ0_length_8abf5_1 ?_
  refine x_slen (k := k) hC hZ hH hk dJ0_length_8abf5_4 ?_
  refine lv_aload_n hx hb dJ0_length_8abf5_5 rfl (lv_at hl 0 rfl) ?_
  refine x_callVS (ws' := WE G ad σ) (k := k) (As := []) (rest := [.int (nI (sLen.getD k 0))]) (st' := [.int 0, .int (nI (sLen.getD k 0))]) hC hK hZ hA hl.1 hH hk (k_J0_coder_7d493 l G ad σ k hk) lk_J0_335 [] rfl rfl rfl rfl ⟨Nat.le_of_ble_eq_true rfl, Nat.le_of_ble_eq_true rfl⟩ ⟨Nat.le_refl _, Nat.le_refl _⟩ (Nat.le_of_ble_eq_true rfl) rfl dJ0_length_8abf5_6 (fun H locs hH => ?_)
  refine lv_ishr hx hb dJ0_length_8abf5_9 ?_
  exact x_iret hC hr hkL hH (by exact (sLenSh k hk).symm) rfl dJ0_length_8abf5_10
set_option maxHeartbeats 4000000 in
set_option maxRecDepth 100000 in
theorem k_J1_canEncode_9a6ad (l : Launch) (G : GP) (ad : Nat → Nat) (σ : Nat → Nat → Int32) (c : Int32) : CT l G yJ1_canEncode_9a6ad cJ1_canEncode_9a6ad 1 (some .boolean) 0 [.int c] (WE G ad σ) (some (.int (bI (0 ≤ c ∧ c ≤ 255)))) (WE G ad σ) := by
  refine x_meth "java/lang/StringLatin1" rfl (by decide +kernel) (by rfl) (Nat.le_of_ble_eq_true rfl) ?_
  intro pP eE sS mM args below meth cC A ls hC hr hkL hK hZ hA hH hl
  have hx := hC.1
  have hb := hC.2.1
  have hl : lv_has ls 1 [(0, .int c)] := hl
  refine lv_iload_n hx hb dJ1_canEncode_9a6ad_0 rfl (lv_at hl 0 rfl) ?_
  refine lv_if_lt (tgt := 15) hx hb dJ1_canEncode_9a6ad_1 (by decide) (fun c1 => ?_) (fun c1 => ?_)
  · refine lv_iconst (v := 0) hx hb dJ1_canEncode_9a6ad_15 (by decide) ?_
    exact x_zret hC hr hkL hH nar_bI (bI_f (by first | exact fun z => absurd z.1 (Int32.not_le.mpr c1) | exact fun z => absurd z.2 (Int32.not_le.mpr c8))) rfl dJ1_canEncode_9a6ad_16
  · refine lv_iload_n hx hb dJ1_canEncode_9a6ad_4 rfl (lv_at hl 0 rfl) ?_
    refine lv_sipush (v := 255) hx hb dJ1_canEncode_9a6ad_5 (by decide) ?_
    refine lv_icmp_gt (tgt := 15) hx hb dJ1_canEncode_9a6ad_8 (by decide) (fun c8 => ?_) (fun c8 => ?_)
    · refine lv_iconst (v := 0) hx hb dJ1_canEncode_9a6ad_15 (by decide) ?_
      exact x_zret hC hr hkL hH nar_bI (bI_f (by first | exact fun z => absurd z.1 (Int32.not_le.mpr c1) | exact fun z => absurd z.2 (Int32.not_le.mpr c8))) rfl dJ1_canEncode_9a6ad_16
    · refine lv_iconst (v := 1) hx hb dJ1_canEncode_9a6ad_11 (by decide) ?_
      refine lv_goto (tgt := 16) hx hb dJ1_canEncode_9a6ad_12 (by decide) ?_
      exact x_zret hC hr hkL hH nar_bI (bI_t (by exact ⟨Int32.not_lt.mp c1, Int32.not_lt.mp c8⟩)) rfl dJ1_canEncode_9a6ad_16
set_option maxHeartbeats 4000000 in
set_option maxRecDepth 100000 in
theorem k_J1_indexOfChar_4cfef (l : Launch) (G : GP) (ad : Nat → Nat) (σ : Nat → Nat → Int32) (k : Nat) (c : Int32) (f : Int32) (t : Int32) (cj : Nat) (hk : k < 6) (hc : c = nI cj) (hc2 : cj < 256) (hf : f = 0) (ht : t = nI (sLen.getD k 0)) : CT l G yJ1_indexOfChar_4cfef cJ1_indexOfChar_4cfef 6 (some .int) 0 [.ref (G.2.2.2 k), .int c, .int f, .int t] (WE G ad σ) (some (.int (ixA k c))) (WE G ad σ) := by
  refine x_meth "java/lang/StringLatin1" rfl (by decide +kernel) (by rfl) (Nat.le_of_ble_eq_true rfl) ?_
  intro pP eE sS mM args below meth cC A ls hC hr hkL hK hZ hA hH hl
  have hx := hC.1
  have hb := hC.2.1
  have hl : lv_has ls 6 [(0, .ref (G.2.2.2 k)), (1, .int c), (2, .int f), (3, .int t)] := hl
  have hL10 := sLen10 k hk
  refine lv_iload_n hx hb dJ1_indexOfChar_4cfef_0 rfl (lv_at hl 1 rfl) ?_
  refine lv_i2b (v := (c.toInt8.toInt32)) hx hb dJ1_indexOfChar_4cfef_1 rfl ?_
  refine lv_istore (lv' := [(4, .int (c.toInt8.toInt32)), (0, .ref (G.2.2.2 k)), (1, .int c), (2, .int f), (3, .int t)]) hx hb dJ1_indexOfChar_4cfef_2 hl (by decide) rfl (fun ls hl => ?_)
  refine lv_iload_n hx hb dJ1_indexOfChar_4cfef_4 rfl (lv_at hl 3 rfl) ?_
  refine lv_istore (lv' := [(5, .int f), (4, .int (c.toInt8.toInt32)), (0, .ref (G.2.2.2 k)), (1, .int c), (2, .int f), (3, .int t)]) hx hb dJ1_indexOfChar_4cfef_5 hl (by decide) rfl (fun ls hl => ?_)
  refine x_loop (G := G) (A := A) (H0 := sS.heap) (nL := 6) (α := Nat) (fun q_ => (sLen.getD k 0) - q_) (fun q_ => q_ ≤ sLen.getD k 0 ∧ ixD k c q_ = ixA k c) (fun q_ => WE G ad σ) (fun q_ => [(0, .ref (G.2.2.2 k)), (1, .int c), (2, .int f), (3, .int t), (4, .int (c.toInt8.toInt32)), (5, .int (nI q_))]) ?_ 0 (show 0 ≤ sLen.getD k 0 ∧ ixD k c 0 = ixA k c from ⟨Nat.zero_le _, rfl⟩) ?_ ?_
  · rintro i hi_i ih_i H locs ls hH hl
    replace hi_i : i ≤ sLen.getD k 0 ∧ ixD k c i = ixA k c := hi_i
    replace hH : Hx G A (WE G ad σ) sS.heap H locs := hH
    replace hl : lv_has ls 6 [(0, .ref (G.2.2.2 k)), (1, .int c), (2, .int f), (3, .int t), (4, .int (c.toInt8.toInt32)), (5, .int (nI i))] := hl
    have hi_i1 := hi_i.1
    refine lv_iload hx hb dJ1_indexOfChar_4cfef_7 (lv_at hl 5 rfl) ?_
    refine lv_iload_n hx hb dJ1_indexOfChar_4cfef_9 rfl (lv_at hl 3 rfl) ?_
    refine lv_icmp_ge (tgt := 31) hx hb dJ1_indexOfChar_4cfef_10 (by decide) (fun c10 => ?_) (fun c10 => ?_)
    · have ge_i := lp_out (n := (sLen.getD k 0)) ht (by omega) (by omega) c10
      have eq_i : i = (sLen.getD k 0) := by omega
      refine lv_iconst (v := (-1)) hx hb dJ1_indexOfChar_4cfef_31 (by decide) ?_
      exact x_iret hC hr hkL hH (by first | exact hi_i.2.symm.trans (ixD_t hk lt_i hc2 hc c19) | exact hi_i.2.symm.trans (ixD_e hk (by omega))) rfl dJ1_indexOfChar_4cfef_32
    · have lt_i := lp_in (n := (sLen.getD k 0)) ht (by omega) (by omega) c10
      refine lv_aload_n hx hb dJ1_indexOfChar_4cfef_13 rfl (lv_at hl 0 rfl) ?_
      refine lv_iload hx hb dJ1_indexOfChar_4cfef_14 (lv_at hl 5 rfl) ?_
      refine x_sbal (k := k) (j := i) hC hZ hH hk (by omega) dJ1_indexOfChar_4cfef_16 ?_
      refine lv_iload hx hb dJ1_indexOfChar_4cfef_17 (lv_at hl 4 rfl) ?_
      refine lv_icmp_ne (tgt := 25) hx hb dJ1_indexOfChar_4cfef_19 (by decide) (fun c19 => ?_) (fun c19 => ?_)
      · refine lv_iinc (v := ((nI i) + 1)) (lv' := [(5, .int ((nI i) + 1)), (0, .ref (G.2.2.2 k)), (1, .int c), (2, .int f), (3, .int t), (4, .int (c.toInt8.toInt32))]) hx hb dJ1_indexOfChar_4cfef_25 hl (k := 5) rfl rfl (by decide) rfl (fun ls hl => ?_)
        refine lv_goto (tgt := 7) hx hb dJ1_indexOfChar_4cfef_28 (by decide) ?_
        exact ih_i (i + 1) (show (i + 1) ≤ sLen.getD k 0 ∧ ixD k c (i + 1) = ixA k c from ⟨by omega, (ixD_f hk lt_i hc2 hc c19).symm.trans hi_i.2⟩) (show (sLen.getD k 0) - (i + 1) < (sLen.getD k 0) - i from (by omega)) _ _ _ (hH.eq rfl) (lv_eq (lv_sub hl [1, 2, 3, 4, 5, 0] rfl) (lc_s (lc_s (lc_s (lc_s (lc_s (lc_i (by exact nI_1 _ : ((nI i) + 1) = (nI (i + 1))) rfl)))))))
      · refine lv_iload hx hb dJ1_indexOfChar_4cfef_22 (lv_at hl 5 rfl) ?_
        exact x_iret hC hr hkL hH (by first | exact hi_i.2.symm.trans (ixD_t hk lt_i hc2 hc c19) | exact hi_i.2.symm.trans (ixD_e hk (by omega))) rfl dJ1_indexOfChar_4cfef_24
  · exact hH.eq rfl
  · exact lv_eq (lv_sub hl [2, 3, 4, 5, 1, 0] rfl) (lc_s (lc_s (lc_s (lc_s (lc_s (lc_i (by exact hf : f = (nI 0)) rfl))))))
set_option maxHeartbeats 4000000 in
set_option maxRecDepth 100000 in
theorem k_J1_indexOf_4cfef (l : Launch) (G : GP) (ad : Nat → Nat) (σ : Nat → Nat → Int32) (k : Nat) (c : Int32) (f : Int32) (t : Int32) (cj : Nat) (hk : k < 6) (hc : c = nI cj) (hc2 : cj < 256) (hf : f = 0) (ht : t = nI (sLen.getD k 0)) : CT l G yJ1_indexOf_4cfef cJ1_indexOf_4cfef 4 (some .int) 1 [.ref (G.2.2.2 k), .int c, .int f, .int t] (WE G ad σ) (some (.int (ixA k c))) (WE G ad σ) := by
  refine x_meth "java/lang/StringLatin1" rfl (by decide +kernel) (by rfl) (Nat.le_of_ble_eq_true rfl) ?_
  intro pP eE sS mM args below meth cC A ls hC hr hkL hK hZ hA hH hl
  have hx := hC.1
  have hb := hC.2.1
  have hl : lv_has ls 4 [(0, .ref (G.2.2.2 k)), (1, .int c), (2, .int f), (3, .int t)] := hl
  have hL10 := sLen10 k hk
  have hLP := sLenP k hk
  refine lv_iload_n hx hb dJ1_indexOf_4cfef_0 rfl (lv_at hl 1 rfl) ?_
  refine x_callS (ws' := WE G ad σ) (As := [.int c]) (rest := []) (st' := [.int (bI (0 ≤ c ∧ c ≤ 255))]) hC hK hZ hA hl.1 hH (k_J1_canEncode_9a6ad l G (pk ad []) (pk σ []) c) lk_J1_88 [] rfl rfl rfl rfl ⟨Nat.le_of_ble_eq_true rfl, Nat.le_of_ble_eq_true rfl⟩ ⟨Nat.le_refl _, Nat.le_refl _⟩ (Nat.le_of_ble_eq_true rfl) rfl dJ1_indexOf_4cfef_1 (fun H locs hH => ?_)
  refine x_bne (tgt := 9) hC dJ1_indexOf_4cfef_4 (by decide) (fun c4 => ?_) (fun c4 => ?_)
  rotate_left
  · exact absurd (show 0 ≤ c ∧ c ≤ 255 by rw [hc]; exact ⟨nI_pos' (by omega), (nI_leI (a := cj) (b := 255) (by omega) (by omega)).mpr (by omega)⟩) c4
  refine lv_iload_n hx hb dJ1_indexOf_4cfef_9 rfl (lv_at hl 2 rfl) ?_
  refine lv_iconst (v := 0) hx hb dJ1_indexOf_4cfef_10 (by decide) ?_
  refine x_max (a := f) (b := 0) (rest := []) hC hl.1 wd_342 ⟨Nat.le_of_ble_eq_true rfl, Nat.le_of_ble_eq_true rfl⟩ ⟨Nat.le_refl _, Nat.le_refl _⟩ (Nat.le_of_ble_eq_true rfl) dJ1_indexOf_4cfef_11 ?_
  refine x_topE (y := 0) (by rw [hf]; decide) ?_
  refine lv_istore_n (lv' := [(2, .int 0), (0, .ref (G.2.2.2 k)), (1, .int c), (3, .int t)]) hx hb dJ1_indexOf_4cfef_14 rfl hl (by decide) rfl (fun ls hl => ?_)
  refine lv_iload_n hx hb dJ1_indexOf_4cfef_15 rfl (lv_at hl 3 rfl) ?_
  refine lv_aload_n hx hb dJ1_indexOf_4cfef_16 rfl (lv_at hl 1 rfl) ?_
  refine x_slen (k := k) hC hZ hH hk dJ1_indexOf_4cfef_17 ?_
  refine x_min (a := t) (b := (nI (sLen.getD k 0))) (rest := []) hC hl.1 wd_343 ⟨Nat.le_of_ble_eq_true rfl, Nat.le_of_ble_eq_true rfl⟩ ⟨Nat.le_refl _, Nat.le_refl _⟩ (Nat.le_of_ble_eq_true rfl) dJ1_indexOf_4cfef_18 ?_
  refine x_topE (y := (nI (sLen.getD k 0))) (by rw [ht]; exact mn32_s _) ?_
  refine lv_istore_n (lv' := [(3, .int (nI (sLen.getD k 0))), (2, .int 0), (0, .ref (G.2.2.2 k)), (1, .int c)]) hx hb dJ1_indexOf_4cfef_21 rfl hl (by decide) rfl (fun ls hl => ?_)
  refine lv_iload_n hx hb dJ1_indexOf_4cfef_22 rfl (lv_at hl 1 rfl) ?_
  refine lv_iload_n hx hb dJ1_indexOf_4cfef_23 rfl (lv_at hl 0 rfl) ?_
  refine lv_icmp_lt (tgt := 29) hx hb dJ1_indexOf_4cfef_24 (by decide) (fun c24 => ?_) (fun c24 => ?_)
  rotate_left
  · exact absurd (nI_lt (a := 0) hLP (by omega)) c24
  refine lv_aload_n hx hb dJ1_indexOf_4cfef_29 rfl (lv_at hl 2 rfl) ?_
  refine lv_iload_n hx hb dJ1_indexOf_4cfef_30 rfl (lv_at hl 3 rfl) ?_
  refine lv_iload_n hx hb dJ1_indexOf_4cfef_31 rfl (lv_at hl 1 rfl) ?_
  refine lv_iload_n hx hb dJ1_indexOf_4cfef_32 rfl (lv_at hl 0 rfl) ?_
  refine x_callS (ws' := WE G ad σ) (As := [.ref (G.2.2.2 k), .int c, .int 0, .int (nI (sLen.getD k 0))]) (rest := []) (st' := [.int (ixA k c)]) hC hK hZ hA hl.1 hH (k_J1_indexOfChar_4cfef l G (pk ad []) (pk σ []) k c 0 (nI (sLen.getD k 0)) cj hk hc hc2 rfl rfl) lk_J1_95 [] rfl rfl rfl rfl ⟨Nat.le_of_ble_eq_true rfl, Nat.le_of_ble_eq_true rfl⟩ ⟨Nat.le_refl _, Nat.le_refl _⟩ (Nat.le_of_ble_eq_true rfl) rfl dJ1_indexOf_4cfef_33 (fun H locs hH => ?_)
  exact x_iret hC hr hkL hH rfl rfl dJ1_indexOf_4cfef_36
set_option maxHeartbeats 4000000 in
set_option maxRecDepth 100000 in
theorem k_J0_indexOf_7cf53 (l : Launch) (G : GP) (ad : Nat → Nat) (σ : Nat → Nat → Int32) (k : Nat) (c : Int32) (f : Int32) (cj : Nat) (hk : k < 6) (hc : c = nI cj) (hc2 : cj < 256) (hf : f = 0) : CT l G yJ0_indexOf_7cf53 cJ0_indexOf_7cf53 3 (some .int) 2 [.ref (G.2.2.1 k), .int c, .int f] (WE G ad σ) (some (.int (ixA k c))) (WE G ad σ) := by
  refine x_meth "java/lang/String" rfl (by decide +kernel) (by rfl) (Nat.le_of_ble_eq_true rfl) ?_
  intro pP eE sS mM args below meth cC A ls hC hr hkL hK hZ hA hH hl
  have hx := hC.1
  have hb := hC.2.1
  have hl : lv_has ls 3 [(0, .ref (G.2.2.1 k)), (1, .int c), (2, .int f)] := hl
  refine lv_aload_n hx hb dJ0_indexOf_7cf53_0 rfl (lv_at hl 0 rfl) ?_
  refine x_callVS (ws' := WE G ad σ) (k := k) (As := []) (rest := []) (st' := [.int 1]) hC hK hZ hA hl.1 hH hk (k_J0_isLatin1_aae02 l G ad σ k hk) lk_J0_492 [] rfl rfl rfl rfl ⟨Nat.le_of_ble_eq_true rfl, Nat.le_of_ble_eq_true rfl⟩ ⟨Nat.le_refl _, Nat.le_refl _⟩ (Nat.le_of_ble_eq_true rfl) rfl dJ0_indexOf_7cf53_1 (fun H locs hH => ?_)
  refine lv_if_eq (tgt := 23) hx hb dJ0_indexOf_7cf53_4 (by decide) (fun c4 => ?_) (fun c4 => ?_)
  · exact absurd c4 (by decide)
  refine lv_aload_n hx hb dJ0_indexOf_7cf53_7 rfl (lv_at hl 0 rfl) ?_
  refine x_sval (k := k) hC hZ hH hk dJ0_indexOf_7cf53_8 ?_
  refine lv_iload_n hx hb dJ0_indexOf_7cf53_11 rfl (lv_at hl 1 rfl) ?_
  refine lv_iload_n hx hb dJ0_indexOf_7cf53_12 rfl (lv_at hl 2 rfl) ?_
  refine lv_aload_n hx hb dJ0_indexOf_7cf53_13 rfl (lv_at hl 0 rfl) ?_
  refine x_callVS (ws' := WE G ad σ) (k := k) (As := []) (rest := [.int f, .int c, .ref (G.2.2.2 k)]) (st' := [.int (nI (sLen.getD k 0)), .int f, .int c, .ref (G.2.2.2 k)]) hC hK hZ hA hl.1 hH hk (k_J0_length_8abf5 l G ad σ k hk) lk_J0_505 [] rfl rfl rfl rfl ⟨Nat.le_of_ble_eq_true rfl, Nat.le_of_ble_eq_true rfl⟩ ⟨Nat.le_refl _, Nat.le_refl _⟩ (Nat.le_of_ble_eq_true rfl) rfl dJ0_indexOf_7cf53_14 (fun H locs hH => ?_)
  refine x_callJ (ws' := WE G ad σ) (As := [.ref (G.2.2.2 k), .int c, .int f, .int (nI (sLen.getD k 0))]) (rest := []) (st' := [.int (ixA k c)]) hC hK hZ hA hl.1 hH (k_J1_indexOf_4cfef l G (pk ad []) (pk σ []) k c f (nI (sLen.getD k 0)) cj hk hc hc2 hf rfl) lk_J0_637 [] rfl rfl rfl rfl ⟨Nat.le_of_ble_eq_true rfl, Nat.le_of_ble_eq_true rfl⟩ ⟨Nat.le_refl _, Nat.le_refl _⟩ (Nat.le_of_ble_eq_true rfl) rfl dJ0_indexOf_7cf53_17 (fun H locs hH => ?_)
  refine lv_goto (tgt := 36) hx hb dJ0_indexOf_7cf53_20 (by decide) ?_
  exact x_iret hC hr hkL hH rfl rfl dJ0_indexOf_7cf53_36
set_option maxHeartbeats 4000000 in
set_option maxRecDepth 100000 in
theorem k_J0_indexOf_0f7a4 (l : Launch) (G : GP) (ad : Nat → Nat) (σ : Nat → Nat → Int32) (k : Nat) (c : Int32) (cj : Nat) (hk : k < 6) (hc : c = nI cj) (hc2 : cj < 256) : CT l G yJ0_indexOf_0f7a4 cJ0_indexOf_0f7a4 2 (some .int) 3 [.ref (G.2.2.1 k), .int c] (WE G ad σ) (some (.int (ixA k c))) (WE G ad σ) := by
  refine x_meth "java/lang/String" rfl (by decide +kernel) (by rfl) (Nat.le_of_ble_eq_true rfl) ?_
  intro pP eE sS mM args below meth cC A ls hC hr hkL hK hZ hA hH hl
  have hx := hC.1
  have hb := hC.2.1
  have hl : lv_has ls 2 [(0, .ref (G.2.2.1 k)), (1, .int c)] := hl
  refine lv_aload_n hx hb dJ0_indexOf_0f7a4_0 rfl (lv_at hl 0 rfl) ?_
  refine lv_iload_n hx hb dJ0_indexOf_0f7a4_1 rfl (lv_at hl 1 rfl) ?_
  refine lv_iconst (v := 0) hx hb dJ0_indexOf_0f7a4_2 (by decide) ?_
  refine x_callVS (ws' := WE G ad σ) (k := k) (As := [.int c, .int 0]) (rest := []) (st' := [.int (ixA k c)]) hC hK hZ hA hl.1 hH hk (k_J0_indexOf_7cf53 l G ad σ k c 0 cj hk hc hc2 rfl) lk_J0_633 [] rfl rfl rfl rfl ⟨Nat.le_of_ble_eq_true rfl, Nat.le_of_ble_eq_true rfl⟩ ⟨Nat.le_refl _, Nat.le_refl _⟩ (Nat.le_of_ble_eq_true rfl) rfl dJ0_indexOf_0f7a4_3 (fun H locs hH => ?_)
  exact x_iret hC hr hkL hH rfl rfl dJ0_indexOf_0f7a4_6
