section XLL
variable {p : Program} {l : Launch} {e : Env} {R : Room} {s : State} {m : MethodId} {args : Array Value} {below : List Frame} {meth : Method} {c : Code} {H : Heap} {locs : List Loc} {cells slots : Nat} {Q : State → Prop}
variable {ls : Array Slot} {G : GP} {A : Nat → Prop} {aC aM : Nat → Nat} {σ τ : Nat → Nat → Int32} {b L i : Nat} {xs : Nat → Int32}
set_option maxHeartbeats 8000000 in
set_option maxRecDepth 100000 in
theorem law_loop (hC : CallFix p m c cL_law 4 s args BG "BetsOnBetsLaw") (hK : Kx G s) (hZ : Zx G A s s.heap) (hA : ∀ q, s.heap.size ≤ q → A q) (hX : va_X b L xs s s.heap) (hbl : b < s.heap.size) (hbA : ¬ A b) (hL : L ≤ 2048) (hRf : 12 ≤ R.frames) (hRl : 700 ≤ R.locals) (hRc : cells ≤ R.cells) (hRs : slots ≤ R.slots)
    (ke : ∀ (σ τ : Nat → Nat → Int32) (H : Heap) (locs : List Loc) (ls : Array Slot), Hx G A (WC G aC σ ++ WM G aM τ) s.heap H locs → W p l e R s m args below meth c H locs cells slots Q (F0 m 861 ls [.int 1])) :
    ∀ (g i : Nat), i ≤ L + 3 → L + 4 - i ≤ g → ∀ (σ τ : Nat → Nat → Int32) (H : Heap) (locs : List Loc) (ls : Array Slot), INV σ τ → Hx G A (WC G aC σ ++ WM G aM τ) s.heap H locs → lv_has ls 4 [(0, .ref b), (1, .ref (aC 0)), (2, .ref (aM 0)), (3, .int (nI i))] → W p l e R s m args below meth c H locs cells slots Q (F0 m 18 ls []) := by
  have hx := hC.1
  have hb := hC.2.1
  intro g
  induction g with
  | zero => intro i h1 h2; exact absurd h2 (by omega)
  | succ g ih =>
    intro i h1 h2 σ τ H locs ls hI hH hl
    refine lv_iload_n hx hb dL_law_18 rfl (lv_at hl 3 rfl) ?_
    refine lv_aload_n hx hb dL_law_19 rfl (lv_at hl 0 rfl) ?_
    refine va_slen hx hb hX hbl hbA hH.2.2 dL_law_20 ?_
    refine lv_iconst (v := 4) hx hb dL_law_21 (by decide) ?_
    refine lv_isub hx hb dL_law_22 ?_
    refine lv_icmp_gt (tgt := 860) hx hb dL_law_23 (by decide) (fun c_ => ?_) (fun c_ => ?_)
    · refine lv_iconst (v := 1) hx hb dL_law_860 (by decide) ?_
      exact ke σ τ H locs ls hH
    · have hi : i + 4 ≤ L := lw_le (by omega) hL c_
      refine lv_aload_n hx hb dL_law_26 rfl (lv_at hl 0 rfl) ?_
      refine lv_iload_n hx hb dL_law_27 rfl (lv_at hl 3 rfl) ?_
      refine x_sld (j := i) hC hX hbl hbA hH rfl (by omega) hL dL_law_28 ?_
      refine lv_bipush (v := 31) hx hb dL_law_29 (by decide) ?_
      refine lv_iand hx hb dL_law_31 ?_
      obtain ⟨r, hr, er⟩ := lw_31 (xs i)
      refine x_topE er ?_
      have kk : ∀ (σ' τ' : Nat → Nat → Int32) (H : Heap) (locs : List Loc) (ls : Array Slot), INV σ' τ' → Hx G A (WC G aC σ' ++ WM G aM τ') s.heap H locs → lv_has ls 4 [(0, .ref b), (1, .ref (aC 0)), (2, .ref (aM 0)), (3, .int (nI i))] → W p l e R s m args below meth c H locs cells slots Q (F0 m 854 ls []) := by
        intro σ' τ' H locs ls hI hH hl
        refine lv_iinc (v := nI (i + 4)) (lv' := [(3, .int (nI (i + 4))), (0, .ref b), (1, .ref (aC 0)), (2, .ref (aM 0))]) hx hb dL_law_854 hl (k := 3) rfl (nI_add i 4) (by decide) rfl (fun ls hl => ?_)
        refine lv_goto (tgt := 18) hx hb dL_law_857 (by decide) ?_
        exact ih (i + 4) (by omega) (by omega) σ' τ' H locs ls hI hH (lv_sub hl [1, 2, 3, 0] rfl)
      match r, hr with
      | 0, _ =>
        refine lv_tableIn (tgt := 160) hx hb dL_law_32 (by decide) (by decide) rfl (by decide) ?_
        exact lwc_0 hC hK hZ hA hX hbl hbA hL hi hRf hRl hRc hRs hI hH hl kk
      | 1, _ =>
        refine lv_tableIn (tgt := 183) hx hb dL_law_32 (by decide) (by decide) rfl (by decide) ?_
        exact lwc_1 hC hK hZ hA hX hbl hbA hL hi hRf hRl hRc hRs hI hH hl kk
      | 2, _ =>
        refine lv_tableIn (tgt := 196) hx hb dL_law_32 (by decide) (by decide) rfl (by decide) ?_
        exact lwc_2 hC hK hZ hA hX hbl hbA hL hi hRf hRl hRc hRs hI hH hl kk
      | 3, _ =>
        refine lv_tableIn (tgt := 219) hx hb dL_law_32 (by decide) (by decide) rfl (by decide) ?_
        exact lwc_3 hC hK hZ hA hX hbl hbA hL hi hRf hRl hRc hRs hI hH hl kk
      | 4, _ =>
        refine lv_tableIn (tgt := 252) hx hb dL_law_32 (by decide) (by decide) rfl (by decide) ?_
        exact lwc_4 hC hK hZ hA hX hbl hbA hL hi hRf hRl hRc hRs hI hH hl kk
      | 5, _ =>
        refine lv_tableIn (tgt := 295) hx hb dL_law_32 (by decide) (by decide) rfl (by decide) ?_
        exact lwc_5 hC hK hZ hA hX hbl hbA hL hi hRf hRl hRc hRs hI hH hl kk
      | 6, _ =>
        refine lv_tableIn (tgt := 328) hx hb dL_law_32 (by decide) (by decide) rfl (by decide) ?_
        exact lwc_6 hC hK hZ hA hX hbl hbA hL hi hRf hRl hRc hRs hI hH hl kk
      | 7, _ =>
        refine lv_tableIn (tgt := 361) hx hb dL_law_32 (by decide) (by decide) rfl (by decide) ?_
        exact lwc_7 hC hK hZ hA hX hbl hbA hL hi hRf hRl hRc hRs hI hH hl kk
      | 8, _ =>
        refine lv_tableIn (tgt := 394) hx hb dL_law_32 (by decide) (by decide) rfl (by decide) ?_
        exact lwc_8 hC hK hZ hA hX hbl hbA hL hi hRf hRl hRc hRs hI hH hl kk
      | 9, _ =>
        refine lv_tableIn (tgt := 427) hx hb dL_law_32 (by decide) (by decide) rfl (by decide) ?_
        exact lwc_9 hC hK hZ hA hX hbl hbA hL hi hRf hRl hRc hRs hI hH hl kk
      | 10, _ =>
        refine lv_tableIn (tgt := 450) hx hb dL_law_32 (by decide) (by decide) rfl (by decide) ?_
        exact lwc_10 hC hK hZ hA hX hbl hbA hL hi hRf hRl hRc hRs hI hH hl kk
      | 11, _ =>
        refine lv_tableIn (tgt := 483) hx hb dL_law_32 (by decide) (by decide) rfl (by decide) ?_
        exact lwc_11 hC hK hZ hA hX hbl hbA hL hi hRf hRl hRc hRs hI hH hl kk
      | 12, _ =>
        refine lv_tableIn (tgt := 516) hx hb dL_law_32 (by decide) (by decide) rfl (by decide) ?_
        exact lwc_12 hC hK hZ hA hX hbl hbA hL hi hRf hRl hRc hRs hI hH hl kk
      | 13, _ =>
        refine lv_tableIn (tgt := 539) hx hb dL_law_32 (by decide) (by decide) rfl (by decide) ?_
        exact lwc_13 hC hK hZ hA hX hbl hbA hL hi hRf hRl hRc hRs hI hH hl kk
      | 14, _ =>
        refine lv_tableIn (tgt := 562) hx hb dL_law_32 (by decide) (by decide) rfl (by decide) ?_
        exact lwc_14 hC hK hZ hA hX hbl hbA hL hi hRf hRl hRc hRs hI hH hl kk
      | 15, _ =>
        refine lv_tableIn (tgt := 575) hx hb dL_law_32 (by decide) (by decide) rfl (by decide) ?_
        exact lwc_15 hC hK hZ hA hX hbl hbA hL hi hRf hRl hRc hRs hI hH hl kk
      | 16, _ =>
        refine lv_tableIn (tgt := 598) hx hb dL_law_32 (by decide) (by decide) rfl (by decide) ?_
        exact lwc_16 hC hK hZ hA hX hbl hbA hL hi hRf hRl hRc hRs hI hH hl kk
      | 17, _ =>
        refine lv_tableIn (tgt := 621) hx hb dL_law_32 (by decide) (by decide) rfl (by decide) ?_
        exact lwc_17 hC hK hZ hA hX hbl hbA hL hi hRf hRl hRc hRs hI hH hl kk
      | 18, _ =>
        refine lv_tableIn (tgt := 634) hx hb dL_law_32 (by decide) (by decide) rfl (by decide) ?_
        exact lwc_18 hC hK hZ hA hX hbl hbA hL hi hRf hRl hRc hRs hI hH hl kk
      | 19, _ =>
        refine lv_tableIn (tgt := 657) hx hb dL_law_32 (by decide) (by decide) rfl (by decide) ?_
        exact lwc_19 hC hK hZ hA hX hbl hbA hL hi hRf hRl hRc hRs hI hH hl kk
      | 20, _ =>
        refine lv_tableIn (tgt := 680) hx hb dL_law_32 (by decide) (by decide) rfl (by decide) ?_
        exact lwc_20 hC hK hZ hA hX hbl hbA hL hi hRf hRl hRc hRs hI hH hl kk
      | 21, _ =>
        refine lv_tableIn (tgt := 693) hx hb dL_law_32 (by decide) (by decide) rfl (by decide) ?_
        exact lwc_21 hC hK hZ hA hX hbl hbA hL hi hRf hRl hRc hRs hI hH hl kk
      | 22, _ =>
        refine lv_tableIn (tgt := 716) hx hb dL_law_32 (by decide) (by decide) rfl (by decide) ?_
        exact lwc_22 hC hK hZ hA hX hbl hbA hL hi hRf hRl hRc hRs hI hH hl kk
      | 23, _ =>
        refine lv_tableIn (tgt := 739) hx hb dL_law_32 (by decide) (by decide) rfl (by decide) ?_
        exact lwc_23 hC hK hZ hA hX hbl hbA hL hi hRf hRl hRc hRs hI hH hl kk
      | 24, _ =>
        refine lv_tableIn (tgt := 762) hx hb dL_law_32 (by decide) (by decide) rfl (by decide) ?_
        exact lwc_24 hC hK hZ hA hX hbl hbA hL hi hRf hRl hRc hRs hI hH hl kk
      | 25, _ =>
        refine lv_tableIn (tgt := 805) hx hb dL_law_32 (by decide) (by decide) rfl (by decide) ?_
        exact lwc_25 hC hK hZ hA hX hbl hbA hL hi hRf hRl hRc hRs hI hH hl kk
      | 26, _ =>
        refine lv_tableIn (tgt := 818) hx hb dL_law_32 (by decide) (by decide) rfl (by decide) ?_
        exact lwc_26 hC hK hZ hA hX hbl hbA hL hi hRf hRl hRc hRs hI hH hl kk
      | 27, _ =>
        refine lv_tableIn (tgt := 831) hx hb dL_law_32 (by decide) (by decide) rfl (by decide) ?_
        exact lwc_27 hC hK hZ hA hX hbl hbA hL hi hRf hRl hRc hRs hI hH hl kk
      | 28, _ =>
        refine lv_tableOut (tgt := 854) hx hb dL_law_32 (by decide) (by decide) ?_
        exact kk σ τ H locs ls hI hH hl
      | 29, _ =>
        refine lv_tableOut (tgt := 854) hx hb dL_law_32 (by decide) (by decide) ?_
        exact kk σ τ H locs ls hI hH hl
      | 30, _ =>
        refine lv_tableOut (tgt := 854) hx hb dL_law_32 (by decide) (by decide) ?_
        exact kk σ τ H locs ls hI hH hl
      | 31, _ =>
        refine lv_tableOut (tgt := 854) hx hb dL_law_32 (by decide) (by decide) ?_
        exact kk σ τ H locs ls hI hH hl
      | r + 32, hr => exact absurd hr (by omega)
end XLL
