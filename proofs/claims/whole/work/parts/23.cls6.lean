/-! the class: trials, rings, settling -/
theorem nI_tI {t : Nat} (h : t < 2 ^ 31) : (nI t).toInt = (t : Int) := by
  have e := nI_clamp h
  have p := nI_pos' h
  rw [Int32.le_iff_toInt_le, show (0 : Int32).toInt = 0 from rfl] at p
  have : ((nI t).toInt.toNat : Int) = (t : Int) := congrArg Int.ofNat e
  omega
theorem nI_99 {t : Nat} (h : t < 100) : 0 ≤ (nI t).toInt ∧ (nI t).toInt ≤ 99 := by
  rw [nI_tI (by omega)]
  omega
theorem oD_9 : ∀ t, t < 10 → 0 ≤ (oD t).toInt ∧ (oD t).toInt ≤ 9 := by decide
def mx32 (a b : Int32) : Int32 := if a < b then b else a
theorem e9_max : yJ9_max_7cf53 = Lib.Math.max.name := by decide +kernel
theorem e9_maxc : cJ9_max_7cf53 = Lib.Math.max.code := by decide +kernel
section X9M
variable {p : Program} {l : Launch} {e : Env} {R : Room} {s : State} {m : MethodId} {args : Array Value} {below : List Frame} {meth : Method} {c : Code} {H : Heap} {locs : List Loc} {cells slots : Nat} {Q : State → Prop} {cc : ByteArray} {pc : Nat} {ls : Array Slot} {nL : Nat} {own : String}
/-- Math.max runs by an entry of its own -/
theorem x_max {idx : Nat} {a b : Int32} {rest : List Value} (hC : CallFix p m c cc nL s args BG own) (hl : ls.size = nL) (hL : (Cond.methodLink own idx yJ9_max_7cf53) ∈ BG) (hroom : 0 + 1 ≤ R.frames ∧ 8 + (2 + 11) + 40 * 0 ≤ R.locals) (hcs : cells + 0 ≤ R.cells ∧ slots + 0 ≤ R.slots) (hrest : (rest.map fun v => v.category).sum ≤ 8) (hdg : decode cc pc = .ok (.invokestatic idx, 3))
    (kk : W p l e R s m args below meth c H locs cells slots Q (F0 m (pc + 3) ls (.int (mx32 a b) :: rest))) : W p l e R s m args below meth c H locs cells slots Q (F0 m pc ls (.int b :: .int a :: rest)) := by
  intro T hT X
  have w1 := hC.2.2.2.2 _ hL
  have w2 := hC.2.2.2.2 _ wd_96
  have w3 := hC.2.2.2.2 _ wd_58
  have w4 := hC.2.2.2.2 _ wd_97
  rw [e9_max] at w1 w2 w4
  rw [e9_maxc] at w4
  obtain ⟨vm', X', st⟩ := mathMaxH X hC.1 hC.2.2.2.1 w1 w2 w3 w4 (g := F0 m pc ls (.int b :: .int a :: rest)) rfl (by show ls.size = c.maxLocals; rw [hl, hC.2.2.1]) rfl (by rw [hC.2.1]; exact hdg) (by omega) (by have := lv_room (m := m) (pc := pc) (ls := ls) (rest := rest) hrest; show 2 * (F0 m pc ls rest).monitorRoom + _ + 13 ≤ _; omega) (by omega) (by omega)
  obtain ⟨t2, a1, b1⟩ := kk (T.setVm vm') hT X'
  exact ⟨t2, st t2 a1, b1⟩
end X9M
noncomputable def mgB (g : Nat → Int32) (s : Nat) : Nat → Int32
  | 0 => 0
  | p + 1 => cI (tb (nI s) (nI p)) (mx32 (mgB g s p) (g (s - 2 ^ p))) (mgB g s p)
theorem mgB_t {g : Nat → Int32} {s p : Nat} (h : tb (nI s) (nI p)) : mx32 (mgB g s p) (g (s - 2 ^ p)) = mgB g s (p + 1) := (cI_t h).symm
theorem mgB_f {g : Nat → Int32} {s p : Nat} (h : ¬ tb (nI s) (nI p)) : mgB g s p = mgB g s (p + 1) := (cI_f h).symm
noncomputable def mgV (β : Bk) (e : Int32) (g : Nat → Int32) (s : Nat) : Int32 := if sumS β (nI s) e 4 = 0 then mgB g s 4 + 1 else mgB g s 4
noncomputable def mgG (β : Bk) (e : Int32) (g : Nat → Int32) : Nat → Nat → Int32
  | 0 => g
  | s + 1 => if s = 0 then g else upd (mgG β e g s) s (mgV β e (mgG β e g s) s)
theorem mgG_1 (β : Bk) (e : Int32) (g : Nat → Int32) : mgG β e g 1 = g := if_pos rfl
theorem mgG_s {β : Bk} {e : Int32} {g : Nat → Int32} {s : Nat} (h : ¬ s = 0) : upd (mgG β e g s) s (mgV β e (mgG β e g s) s) = mgG β e g (s + 1) := (if_neg h).symm
theorem mgD : ∀ s, s < 16 → ∀ p, p < 4 → ¬ (nI s >>> (nI p &&& 31)) &&& 1 = 1 ∨ nI s - (1 : Int32) <<< (nI p &&& 31) = nI (s - 2 ^ p) := by decide +kernel
theorem mgx {s p : Nat} (hs : s < 16) (hp : p < 4) (h : tb (nI s) (nI p)) : nI s - (1 : Int32) <<< (nI p &&& 31) = nI (s - 2 ^ p) := (mgD s hs p hp).resolve_left (fun z => z h)
set_option maxHeartbeats 4000000 in
set_option maxRecDepth 100000 in
theorem k_X11_sparing (l : Launch) (G : GP) (ad : Nat → Nat) (σ : Nat → Nat → Int32) (p : Int32) (h : Nat) (k : Nat) (hb3 : (σ 7 3) = nI h) (hb4 : (σ 7 4) = nI k) (hh4 : h ≤ 4) (hk6 : k ≤ 6) (hwo : WO (bk h k (σ 8) (σ 9) (σ 10)) (σ 23) (σ 24)) (hbh : BH (bk h k (σ 8) (σ 9) (σ 10))) (hsb : SB (bk h k (σ 8) (σ 9) (σ 10))) : CTE l G yX11_sparing cX11_sparing 7 (some .int) 6 [.ref (ad 0), .int p] (WC G ad σ) (some (.int (rfA (hbC p 4) (sparA (bk h k (σ 8) (σ 9) (σ 10)) p)))) (fun z => WC G ad (ua (ua (ua (ua (ua σ 11 (upd (upd (σ 11) 3 (z 11 3)) 4 (z 11 4))) 12 (z 12)) 13 (z 13)) 14 (z 14)) 31 (rfz (σ 31) (hbC p 4)))) := by
  refine x_methE "BetsOnBets" rfl (by decide +kernel) (fun z => by rfl) (Nat.le_of_ble_eq_true rfl) ?_
  intro pP eE sS mM args below meth cC A ls hC hr hkL hK hZ hA hH hl
  have hx := hC.1
  have hb := hC.2.1
  have hl : lv_has ls 7 [(0, .ref (ad 0)), (1, .int p)] := hl
  have pwh := pw4 hh4
  have pwk := pw6 hk6
  have ph1 := Nat.one_le_two_pow (n := h)
  have hpb : PB (bk h k (σ 8) (σ 9) (σ 10)) := pb_of hsb hk6
  refine lv_iload_n hx hb dX11_sparing_0 rfl (lv_at hl 1 rfl) ?_
  refine x_callS (ws' := WC G ad σ) (As := [.int p]) (rest := []) (st' := [.int (bI (0 ≤ p ∧ p < 4))]) hC hK hZ hA hl.1 hH (k_X11_isPerson l G (pk ad []) (pk σ []) p) lk_X11_99 [] rfl rfl rfl rfl ⟨Nat.le_of_ble_eq_true rfl, Nat.le_of_ble_eq_true rfl⟩ ⟨Nat.le_refl _, Nat.le_refl _⟩ (Nat.le_of_ble_eq_true rfl) rfl dX11_sparing_1 (fun H locs hH => ?_)
  refine x_bne (tgt := 13) hC dX11_sparing_4 (by decide) (fun c4 => ?_) (fun c4 => ?_)
  · refine lv_aload_n hx hb dX11_sparing_13 rfl (lv_at hl 0 rfl) ?_
    refine gf_X11_32 (v := .ref (ad 11)) hC hK hH 0 rfl rfl dX11_sparing_14 ?_
    refine lv_aload_n hx hb dX11_sparing_17 rfl (lv_at hl 0 rfl) ?_
    refine gf_X11_28 (v := .ref (ad 7)) hC hK hH 0 rfl rfl dX11_sparing_18 ?_
    refine x_callV (ws' := WC G ad (ua (ua (ua (ua σ 11 (upd (upd (σ 11) 3 (σ 7 3)) 4 (σ 7 4))) 12 (σ 8)) 13 (σ 9)) 14 (σ 10))) (As := [.ref (ad 7)]) (rest := []) (st' := []) hC hK hZ hA hl.1 hH (k_X2_takeFrom l G (pk ad [11, 12, 13, 14, 7, 8, 9, 10]) (pk σ [11, 12, 13, 14, 7, 8, 9, 10])) lk_X11_153 [11, 12, 13, 14, 7, 8, 9, 10] rfl rfl rfl 11 1 rfl rfl rfl ⟨Nat.le_of_ble_eq_true rfl, Nat.le_of_ble_eq_true rfl⟩ ⟨Nat.le_refl _, Nat.le_refl _⟩ (Nat.le_of_ble_eq_true rfl) rfl dX11_sparing_21 (fun H locs hH => ?_)
    refine lv_aload_n hx hb dX11_sparing_24 rfl (lv_at hl 0 rfl) ?_
    refine lv_aload_n hx hb dX11_sparing_25 rfl (lv_at hl 0 rfl) ?_
    refine gf_X11_28 (v := .ref (ad 7)) hC hK hH 0 rfl rfl dX11_sparing_26 ?_
    refine lv_iload_n hx hb dX11_sparing_29 rfl (lv_at hl 1 rfl) ?_
    refine x_callVA (ws' := WC G ad (ua (ua (ua (ua σ 11 (upd (upd (σ 11) 3 (σ 7 3)) 4 (σ 7 4))) 12 (σ 8)) 13 (σ 9)) 14 (σ 10))) (As := [.ref (ad 7), .int p]) (rest := []) (st' := [.int (worV (bk h k (σ 8) (σ 9) (σ 10)) p)]) hC hK hZ hA hl.1 hH (k_X11_worstOf_t l G ad (ua (ua (ua (ua σ 11 (upd (upd (σ 11) 3 (σ 7 3)) 4 (σ 7 4))) 12 (σ 8)) 13 (σ 9)) 14 (σ 10)) p h k hb3 hb4 hh4 hk6 hwo hbh (by first | assumption | rfl | omega)) lk_X11_157 rfl 0 10 rfl rfl rfl ⟨Nat.le_of_ble_eq_true rfl, Nat.le_of_ble_eq_true rfl⟩ ⟨Nat.le_refl _, Nat.le_refl _⟩ (Nat.le_of_ble_eq_true rfl) rfl dX11_sparing_30 (fun H locs hH => ?_)
    refine lv_istore_n (lv' := [(2, .int (worV (bk h k (σ 8) (σ 9) (σ 10)) p)), (0, .ref (ad 0)), (1, .int p)]) hx hb dX11_sparing_33 rfl hl (by decide) rfl (fun ls hl => ?_)
    refine lv_bipush (v := (-9)) hx hb dX11_sparing_34 (by decide) ?_
    refine lv_istore_n (lv' := [(3, .int (-9)), (2, .int (worV (bk h k (σ 8) (σ 9) (σ 10)) p)), (0, .ref (ad 0)), (1, .int p)]) hx hb dX11_sparing_36 rfl hl (by decide) rfl (fun ls hl => ?_)
    refine lv_iconst (v := 0) hx hb dX11_sparing_37 (by decide) ?_
    refine lv_istore (lv' := [(4, .int 0), (3, .int (-9)), (2, .int (worV (bk h k (σ 8) (σ 9) (σ 10)) p)), (0, .ref (ad 0)), (1, .int p)]) hx hb dX11_sparing_38 hl (by decide) rfl (fun ls hl => ?_)
    refine x_loop (G := G) (A := A) (H0 := sS.heap) (nL := 7) (α := Nat) (fun q_ => k - q_) (fun q_ => q_ ≤ k) (fun q_ => WC G ad (ua (ua (ua (ua σ 11 (upd (upd (σ 11) 3 (σ 7 3)) 4 (σ 7 4))) 12 (σ 8)) 13 (σ 9)) 14 (σ 10))) (fun q_ => [(0, .ref (ad 0)), (1, .int p), (2, .int ((spO (bk h k (σ 8) (σ 9) (σ 10)) p q_).1)), (3, .int ((spO (bk h k (σ 8) (σ 9) (σ 10)) p q_).2)), (4, .int (nI q_))]) ?_ 0 (show 0 ≤ k from (Nat.zero_le _)) ?_ ?_
    · rintro b hi_b ih_b H locs ls hH hl
      replace hi_b : b ≤ k := hi_b
      replace hH : Hx G A (WC G ad (ua (ua (ua (ua σ 11 (upd (upd (σ 11) 3 (σ 7 3)) 4 (σ 7 4))) 12 (σ 8)) 13 (σ 9)) 14 (σ 10))) sS.heap H locs := hH
      replace hl : lv_has ls 7 [(0, .ref (ad 0)), (1, .int p), (2, .int ((spO (bk h k (σ 8) (σ 9) (σ 10)) p b).1)), (3, .int ((spO (bk h k (σ 8) (σ 9) (σ 10)) p b).2)), (4, .int (nI b))] := hl
      refine lv_iload hx hb dX11_sparing_40 (lv_at hl 4 rfl) ?_
      refine lv_aload_n hx hb dX11_sparing_42 rfl (lv_at hl 0 rfl) ?_
      refine gf_X11_28 (v := .ref (ad 7)) hC hK hH 0 rfl rfl dX11_sparing_43 ?_
      refine gf_X11_160 (v := .int (σ 7 4)) hC hK hH 7 rfl rfl dX11_sparing_46 ?_
      refine x_topE (y := (nI k)) hb4 ?_
      refine lv_icmp_ge (tgt := 149) hx hb dX11_sparing_49 (by decide) (fun c49 => ?_) (fun c49 => ?_)
      · have ge_b := lp_out (n := k) rfl (by omega) (by omega) c49
        have eq_b : b = k := by omega
        refine lv_iload_n hx hb dX11_sparing_149 rfl (lv_at hl 3 rfl) ?_
        exact x_iretE (ua (ua (ua (ua σ 11 (upd (upd (σ 11) 3 (σ 7 3)) 4 (σ 7 4))) 12 (σ 8)) 13 (σ 9)) 14 (σ 10)) hC hr hkL hH (by (refine (rfA0 (cI_t c4)).trans ?_); rw [eq_b]; rfl) ((congrArg (fun z_ : Nat → Int32 => WC G ad (ua (ua (ua (ua (ua σ 11 (upd (upd (σ 11) 3 (σ 7 3)) 4 (σ 7 4))) 12 (σ 8)) 13 (σ 9)) 14 (σ 10)) 31 z_)) (by exact rfz0 (cI_t c4) : (rfz (σ 31) (hbC p 4)) = (σ 31))).trans (show WC G ad (ua (ua (ua (ua (ua σ 11 (upd (upd (σ 11) 3 (σ 7 3)) 4 (σ 7 4))) 12 (σ 8)) 13 (σ 9)) 14 (σ 10)) 31 (σ 31)) = WC G ad (ua (ua (ua (ua σ 11 (upd (upd (σ 11) 3 (σ 7 3)) 4 (σ 7 4))) 12 (σ 8)) 13 (σ 9)) 14 (σ 10)) from rfl)) dX11_sparing_150
      · have lt_b := lp_in (n := k) rfl (by omega) (by omega) c49
        refine lv_aload_n hx hb dX11_sparing_52 rfl (lv_at hl 0 rfl) ?_
        refine gf_X11_28 (v := .ref (ad 7)) hC hK hH 0 rfl rfl dX11_sparing_53 ?_
        refine lv_iload hx hb dX11_sparing_56 (lv_at hl 4 rfl) ?_
        refine lv_iconst (v := 5) hx hb dX11_sparing_58 (by decide) ?_
        refine x_callV (ws' := WC G ad (ua (ua (ua (ua σ 11 (upd (upd (σ 11) 3 (σ 7 3)) 4 (σ 7 4))) 12 (σ 8)) 13 (σ 9)) 14 (σ 10))) (As := [.int (nI b), .int 5]) (rest := []) (st' := [.int ((σ 9) (7 * b + 5))]) hC hK hZ hA hl.1 hH (k_X2_numberOf l G (pk ad [7, 8, 9, 10]) (pk (ua (ua (ua (ua σ 11 (upd (upd (σ 11) 3 (σ 7 3)) 4 (σ 7 4))) 12 (σ 8)) 13 (σ 9)) 14 (σ 10)) [7, 8, 9, 10]) (nI b) 5 b 5 rfl rfl (by omega) (by decide)) lk_X11_91 [7, 8, 9, 10] rfl rfl rfl 7 1 rfl rfl rfl ⟨Nat.le_of_ble_eq_true rfl, Nat.le_of_ble_eq_true rfl⟩ ⟨Nat.le_refl _, Nat.le_refl _⟩ (Nat.le_of_ble_eq_true rfl) rfl dX11_sparing_59 (fun H locs hH => ?_)
        refine x_topE (y := (nm (bk h k (σ 8) (σ 9) (σ 10)) b 5)) rfl ?_
        refine lv_iload_n hx hb dX11_sparing_62 rfl (lv_at hl 1 rfl) ?_
        refine lv_icmp_ne (tgt := 143) hx hb dX11_sparing_63 (by decide) (fun c63 => ?_) (fun c63 => ?_)
        · skip
          refine lv_iinc (v := ((nI b) + 1)) (lv' := [(4, .int ((nI b) + 1)), (0, .ref (ad 0)), (1, .int p), (2, .int ((spO (bk h k (σ 8) (σ 9) (σ 10)) p b).1)), (3, .int ((spO (bk h k (σ 8) (σ 9) (σ 10)) p b).2))]) hx hb dX11_sparing_143 hl (k := 4) rfl rfl (by decide) rfl (fun ls hl => ?_)
          refine lv_goto (tgt := 40) hx hb dX11_sparing_146 (by decide) ?_
          exact ih_b (b + 1) (show (b + 1) ≤ k from (by omega)) (show k - (b + 1) < k - b from (by omega)) _ _ _ (hH.eq rfl) (lv_eq (lv_sub hl [1, 2, 3, 4, 0] rfl) (lc_s (lc_s (lc_i (by first | (rw [spO_f c63]; done) | (rw [spO_t c63]; done) : (spO (bk h k (σ 8) (σ 9) (σ 10)) p b).1 = (spO (bk h k (σ 8) (σ 9) (σ 10)) p (b + 1)).1) (lc_i (by first | (rw [spO_f c63]; done) | (rw [spO_t c63]; done) : (spO (bk h k (σ 8) (σ 9) (σ 10)) p b).2 = (spO (bk h k (σ 8) (σ 9) (σ 10)) p (b + 1)).2) (lc_i (by exact nI_1 _ : ((nI b) + 1) = (nI (b + 1))) rfl))))))
        · refine lv_iconst (v := 0) hx hb dX11_sparing_66 (by decide) ?_
          refine lv_istore (lv' := [(5, .int 0), (0, .ref (ad 0)), (1, .int p), (2, .int ((spO (bk h k (σ 8) (σ 9) (σ 10)) p b).1)), (3, .int ((spO (bk h k (σ 8) (σ 9) (σ 10)) p b).2)), (4, .int (nI b))]) hx hb dX11_sparing_67 hl (by decide) rfl (fun ls hl => ?_)
          refine x_loop (G := G) (A := A) (H0 := sS.heap) (nL := 7) (α := Nat) (fun q_ => 100 - q_) (fun q_ => q_ ≤ 100) (fun q_ => WC G ad (ua (ua (ua (ua σ 11 (upd (upd (σ 11) 3 (σ 7 3)) 4 (σ 7 4))) 12 (σ 8)) 13 (spT (σ 9) (7 * b + 3) nI q_)) 14 (σ 10))) (fun q_ => [(0, .ref (ad 0)), (1, .int p), (2, .int ((spI (bk h k (σ 8) (σ 9) (σ 10)) p b (spO (bk h k (σ 8) (σ 9) (σ 10)) p b) q_).1)), (3, .int ((spI (bk h k (σ 8) (σ 9) (σ 10)) p b (spO (bk h k (σ 8) (σ 9) (σ 10)) p b) q_).2)), (4, .int (nI b)), (5, .int (nI q_))]) ?_ 0 (show 0 ≤ 100 from (Nat.zero_le _)) ?_ ?_
          · rintro t hi_t ih_t H locs ls hH hl
            replace hi_t : t ≤ 100 := hi_t
            replace hH : Hx G A (WC G ad (ua (ua (ua (ua σ 11 (upd (upd (σ 11) 3 (σ 7 3)) 4 (σ 7 4))) 12 (σ 8)) 13 (spT (σ 9) (7 * b + 3) nI t)) 14 (σ 10))) sS.heap H locs := hH
            replace hl : lv_has ls 7 [(0, .ref (ad 0)), (1, .int p), (2, .int ((spI (bk h k (σ 8) (σ 9) (σ 10)) p b (spO (bk h k (σ 8) (σ 9) (σ 10)) p b) t).1)), (3, .int ((spI (bk h k (σ 8) (σ 9) (σ 10)) p b (spO (bk h k (σ 8) (σ 9) (σ 10)) p b) t).2)), (4, .int (nI b)), (5, .int (nI t))] := hl
            refine lv_iload hx hb dX11_sparing_69 (lv_at hl 5 rfl) ?_
            refine lv_bipush (v := 99) hx hb dX11_sparing_71 (by decide) ?_
            refine lv_icmp_gt (tgt := 123) hx hb dX11_sparing_73 (by decide) (fun c73 => ?_) (fun c73 => ?_)
            · have ge_t := lp_out1 (n := 99) rfl (by omega) (by omega) c73
              have eq_t : t = 100 := by omega
              subst eq_t
              refine lv_aload_n hx hb dX11_sparing_123 rfl (lv_at hl 0 rfl) ?_
              refine gf_X11_32 (v := .ref (ad 11)) hC hK hH 0 rfl rfl dX11_sparing_124 ?_
              refine lv_iload hx hb dX11_sparing_127 (lv_at hl 4 rfl) ?_
              refine lv_iconst (v := 3) hx hb dX11_sparing_129 (by decide) ?_
              refine lv_aload_n hx hb dX11_sparing_130 rfl (lv_at hl 0 rfl) ?_
              refine gf_X11_28 (v := .ref (ad 7)) hC hK hH 0 rfl rfl dX11_sparing_131 ?_
              refine lv_iload hx hb dX11_sparing_134 (lv_at hl 4 rfl) ?_
              refine lv_iconst (v := 3) hx hb dX11_sparing_136 (by decide) ?_
              refine x_callV (ws' := WC G ad (ua (ua (ua (ua σ 11 (upd (upd (σ 11) 3 (σ 7 3)) 4 (σ 7 4))) 12 (σ 8)) 13 (spT (σ 9) (7 * b + 3) nI 100)) 14 (σ 10))) (As := [.int (nI b), .int 3]) (rest := [.int 3, .int (nI b), .ref (ad 11)]) (st' := [.int ((σ 9) (7 * b + 3)), .int 3, .int (nI b), .ref (ad 11)]) hC hK hZ hA hl.1 hH (k_X2_numberOf l G (pk ad [7, 8, 9, 10]) (pk (ua (ua (ua (ua σ 11 (upd (upd (σ 11) 3 (σ 7 3)) 4 (σ 7 4))) 12 (σ 8)) 13 (spT (σ 9) (7 * b + 3) nI 100)) 14 (σ 10)) [7, 8, 9, 10]) (nI b) 3 b 3 rfl rfl (by omega) (by decide)) lk_X11_91 [7, 8, 9, 10] rfl rfl rfl 7 1 rfl rfl rfl ⟨Nat.le_of_ble_eq_true rfl, Nat.le_of_ble_eq_true rfl⟩ ⟨Nat.le_refl _, Nat.le_refl _⟩ (Nat.le_of_ble_eq_true rfl) rfl dX11_sparing_137 (fun H locs hH => ?_)
              refine x_callV (ws' := WC G ad (ua (ua (ua (ua σ 11 (upd (upd (σ 11) 3 (σ 7 3)) 4 (σ 7 4))) 12 (σ 8)) 13 (upd (spT (σ 9) (7 * b + 3) nI 100) (7 * b + 3) ((σ 9) (7 * b + 3)))) 14 (σ 10))) (As := [.int (nI b), .int 3, .int ((σ 9) (7 * b + 3))]) (rest := []) (st' := []) hC hK hZ hA hl.1 hH (k_X2_change l G (pk ad [11, 12, 13, 14]) (pk (ua (ua (ua (ua σ 11 (upd (upd (σ 11) 3 (σ 7 3)) 4 (σ 7 4))) 12 (σ 8)) 13 (spT (σ 9) (7 * b + 3) nI 100)) 14 (σ 10)) [11, 12, 13, 14]) (nI b) 3 ((σ 9) (7 * b + 3)) b 3 rfl rfl (by omega) (by decide)) lk_X11_95 [11, 12, 13, 14] rfl rfl rfl 11 1 rfl rfl rfl ⟨Nat.le_of_ble_eq_true rfl, Nat.le_of_ble_eq_true rfl⟩ ⟨Nat.le_refl _, Nat.le_refl _⟩ (Nat.le_of_ble_eq_true rfl) rfl dX11_sparing_140 (fun H locs hH => ?_)
              replace hH : Hx G A (WC G ad (ua (ua (ua (ua σ 11 (upd (upd (σ 11) 3 (σ 7 3)) 4 (σ 7 4))) 12 (σ 8)) 13 (σ 9)) 14 (σ 10))) sS.heap H locs := hH.eq (congrArg (fun z_ : Nat → Int32 => WC G ad (ua (ua (ua (ua σ 11 (upd (upd (σ 11) 3 (σ 7 3)) 4 (σ 7 4))) 12 (σ 8)) 13 z_) 14 (σ 10))) (by exact spT_b _ _ _ _ : (upd (spT (σ 9) (7 * b + 3) nI 100) (7 * b + 3) ((σ 9) (7 * b + 3))) = (σ 9)))
              refine lv_iinc (v := ((nI b) + 1)) (lv' := [(4, .int ((nI b) + 1)), (0, .ref (ad 0)), (1, .int p), (2, .int ((spI (bk h k (σ 8) (σ 9) (σ 10)) p b (spO (bk h k (σ 8) (σ 9) (σ 10)) p b) 100).1)), (3, .int ((spI (bk h k (σ 8) (σ 9) (σ 10)) p b (spO (bk h k (σ 8) (σ 9) (σ 10)) p b) 100).2)), (5, .int (nI 100))]) hx hb dX11_sparing_143 hl (k := 4) rfl rfl (by decide) rfl (fun ls hl => ?_)
              refine lv_goto (tgt := 40) hx hb dX11_sparing_146 (by decide) ?_
              exact ih_b (b + 1) (show (b + 1) ≤ k from (by omega)) (show k - (b + 1) < k - b from (by omega)) _ _ _ (hH.eq rfl) (lv_eq (lv_sub hl [1, 2, 3, 4, 0] rfl) (lc_s (lc_s (lc_i (by first | (rw [spO_f c63]; done) | (rw [spO_t c63]; done) : (spI (bk h k (σ 8) (σ 9) (σ 10)) p b (spO (bk h k (σ 8) (σ 9) (σ 10)) p b) 100).1 = (spO (bk h k (σ 8) (σ 9) (σ 10)) p (b + 1)).1) (lc_i (by first | (rw [spO_f c63]; done) | (rw [spO_t c63]; done) : (spI (bk h k (σ 8) (σ 9) (σ 10)) p b (spO (bk h k (σ 8) (σ 9) (σ 10)) p b) 100).2 = (spO (bk h k (σ 8) (σ 9) (σ 10)) p (b + 1)).2) (lc_i (by exact nI_1 _ : ((nI b) + 1) = (nI (b + 1))) rfl))))))
            · have lt_t := lp_in1 (n := 99) rfl (by omega) (by omega) c73
              refine lv_aload_n hx hb dX11_sparing_76 rfl (lv_at hl 0 rfl) ?_
              refine gf_X11_32 (v := .ref (ad 11)) hC hK hH 0 rfl rfl dX11_sparing_77 ?_
              refine lv_iload hx hb dX11_sparing_80 (lv_at hl 4 rfl) ?_
              refine lv_iconst (v := 3) hx hb dX11_sparing_82 (by decide) ?_
              refine lv_iload hx hb dX11_sparing_83 (lv_at hl 5 rfl) ?_
              refine x_callV (ws' := WC G ad (ua (ua (ua (ua σ 11 (upd (upd (σ 11) 3 (σ 7 3)) 4 (σ 7 4))) 12 (σ 8)) 13 (upd (spT (σ 9) (7 * b + 3) nI t) (7 * b + 3) (nI t))) 14 (σ 10))) (As := [.int (nI b), .int 3, .int (nI t)]) (rest := []) (st' := []) hC hK hZ hA hl.1 hH (k_X2_change l G (pk ad [11, 12, 13, 14]) (pk (ua (ua (ua (ua σ 11 (upd (upd (σ 11) 3 (σ 7 3)) 4 (σ 7 4))) 12 (σ 8)) 13 (spT (σ 9) (7 * b + 3) nI t)) 14 (σ 10)) [11, 12, 13, 14]) (nI b) 3 (nI t) b 3 rfl rfl (by omega) (by decide)) lk_X11_95 [11, 12, 13, 14] rfl rfl rfl 11 1 rfl rfl rfl ⟨Nat.le_of_ble_eq_true rfl, Nat.le_of_ble_eq_true rfl⟩ ⟨Nat.le_refl _, Nat.le_refl _⟩ (Nat.le_of_ble_eq_true rfl) rfl dX11_sparing_85 (fun H locs hH => ?_)
              replace hH : Hx G A (WC G ad (ua (ua (ua (ua σ 11 (upd (upd (σ 11) 3 (σ 7 3)) 4 (σ 7 4))) 12 (σ 8)) 13 (upd (σ 9) (7 * b + 3) (nI t))) 14 (σ 10))) sS.heap H locs := hH.eq (congrArg (fun z_ : Nat → Int32 => WC G ad (ua (ua (ua (ua σ 11 (upd (upd (σ 11) 3 (σ 7 3)) 4 (σ 7 4))) 12 (σ 8)) 13 z_) 14 (σ 10))) (by exact spT_u _ _ _ _ _ : (upd (spT (σ 9) (7 * b + 3) nI t) (7 * b + 3) (nI t)) = (upd (σ 9) (7 * b + 3) (nI t))))
              refine lv_aload_n hx hb dX11_sparing_88 rfl (lv_at hl 0 rfl) ?_
              refine lv_aload_n hx hb dX11_sparing_89 rfl (lv_at hl 0 rfl) ?_
              refine gf_X11_32 (v := .ref (ad 11)) hC hK hH 0 rfl rfl dX11_sparing_90 ?_
              refine lv_iload_n hx hb dX11_sparing_93 rfl (lv_at hl 1 rfl) ?_
              refine x_callVA (ws' := WC G ad (ua (ua (ua (ua σ 11 (upd (upd (σ 11) 3 (σ 7 3)) 4 (σ 7 4))) 12 (σ 8)) 13 (upd (σ 9) (7 * b + 3) (nI t))) 14 (σ 10))) (As := [.ref (ad 11), .int p]) (rest := []) (st' := [.int (worV (bk h k (σ 8) (upd (σ 9) (7 * b + 3) (nI t)) (σ 10)) p)]) hC hK hZ hA hl.1 hH (k_X11_worstOf_r l G ad (ua (ua (ua (ua σ 11 (upd (upd (σ 11) 3 (σ 7 3)) 4 (σ 7 4))) 12 (σ 8)) 13 (upd (σ 9) (7 * b + 3) (nI t))) 14 (σ 10)) p h k hb3 hb4 hh4 hk6 (wo_be (β := (bSet (bk h k (σ 8) (σ 9) (σ 10)) (7 * b + 3) (nI t))) (γ := (bk h k (σ 8) (σ 9) (σ 10))) (be_set (by decide) (by decide)) hwo) (bh_set (β := (bk h k (σ 8) (σ 9) (σ 10))) hbh (by decide)) (pb_of (β := (bSet (bk h k (σ 8) (σ 9) (σ 10)) (7 * b + 3) (nI t))) (sb_3 hsb (nI_99 (by omega))) hk6)) lk_X11_157 rfl 0 10 rfl rfl rfl ⟨Nat.le_of_ble_eq_true rfl, Nat.le_of_ble_eq_true rfl⟩ ⟨Nat.le_refl _, Nat.le_refl _⟩ (Nat.le_of_ble_eq_true rfl) rfl dX11_sparing_94 (fun H locs hH => ?_)
              refine x_topE (y := (worV (bSet (bk h k (σ 8) (σ 9) (σ 10)) (7 * b + 3) (nI t)) p)) rfl ?_
              refine lv_istore (lv' := [(6, .int (worV (bSet (bk h k (σ 8) (σ 9) (σ 10)) (7 * b + 3) (nI t)) p)), (0, .ref (ad 0)), (1, .int p), (2, .int ((spI (bk h k (σ 8) (σ 9) (σ 10)) p b (spO (bk h k (σ 8) (σ 9) (σ 10)) p b) t).1)), (3, .int ((spI (bk h k (σ 8) (σ 9) (σ 10)) p b (spO (bk h k (σ 8) (σ 9) (σ 10)) p b) t).2)), (4, .int (nI b)), (5, .int (nI t))]) hx hb dX11_sparing_97 hl (by decide) rfl (fun ls hl => ?_)
              refine lv_iload hx hb dX11_sparing_99 (lv_at hl 0 rfl) ?_
              refine lv_iload_n hx hb dX11_sparing_101 rfl (lv_at hl 3 rfl) ?_
              refine lv_icmp_le (tgt := 117) hx hb dX11_sparing_102 (by decide) (fun c102 => ?_) (fun c102 => ?_)
              · refine lv_iinc (v := ((nI t) + 1)) (lv' := [(5, .int ((nI t) + 1)), (6, .int (worV (bSet (bk h k (σ 8) (σ 9) (σ 10)) (7 * b + 3) (nI t)) p)), (0, .ref (ad 0)), (1, .int p), (2, .int ((spI (bk h k (σ 8) (σ 9) (σ 10)) p b (spO (bk h k (σ 8) (σ 9) (σ 10)) p b) t).1)), (3, .int ((spI (bk h k (σ 8) (σ 9) (σ 10)) p b (spO (bk h k (σ 8) (σ 9) (σ 10)) p b) t).2)), (4, .int (nI b))]) hx hb dX11_sparing_117 hl (k := 6) rfl rfl (by decide) rfl (fun ls hl => ?_)
                refine lv_goto (tgt := 69) hx hb dX11_sparing_120 (by decide) ?_
                exact ih_t (t + 1) (show (t + 1) ≤ 100 from (by omega)) (show 100 - (t + 1) < 100 - t from (by omega)) _ _ _ (hH.eq (congrArg (fun z_ : Nat → Int32 => WC G ad (ua (ua (ua (ua σ 11 (upd (upd (σ 11) 3 (σ 7 3)) 4 (σ 7 4))) 12 (σ 8)) 13 z_) 14 (σ 10))) (by exact spT_s _ _ nI _ : (upd (σ 9) (7 * b + 3) (nI t)) = (spT (σ 9) (7 * b + 3) nI (t + 1))))) (lv_eq (lv_sub hl [2, 3, 4, 5, 6, 0] rfl) (lc_s (lc_s (lc_i (by first | (rw [spI_f (Int32.not_lt.mpr c102)]; done) | (rw [spI_t (Int32.not_le.mp c102)]; done) : (spI (bk h k (σ 8) (σ 9) (σ 10)) p b (spO (bk h k (σ 8) (σ 9) (σ 10)) p b) t).1 = (spI (bk h k (σ 8) (σ 9) (σ 10)) p b (spO (bk h k (σ 8) (σ 9) (σ 10)) p b) (t + 1)).1) (lc_i (by first | (rw [spI_f (Int32.not_lt.mpr c102)]; done) | (rw [spI_t (Int32.not_le.mp c102)]; done) : (spI (bk h k (σ 8) (σ 9) (σ 10)) p b (spO (bk h k (σ 8) (σ 9) (σ 10)) p b) t).2 = (spI (bk h k (σ 8) (σ 9) (σ 10)) p b (spO (bk h k (σ 8) (σ 9) (σ 10)) p b) (t + 1)).2) (lc_s (lc_i (by exact nI_1 _ : ((nI t) + 1) = (nI (t + 1))) rfl)))))))
              · refine lv_iload hx hb dX11_sparing_105 (lv_at hl 0 rfl) ?_
                refine lv_istore_n (lv' := [(2, .int (worV (bSet (bk h k (σ 8) (σ 9) (σ 10)) (7 * b + 3) (nI t)) p)), (6, .int (worV (bSet (bk h k (σ 8) (σ 9) (σ 10)) (7 * b + 3) (nI t)) p)), (0, .ref (ad 0)), (1, .int p), (3, .int ((spI (bk h k (σ 8) (σ 9) (σ 10)) p b (spO (bk h k (σ 8) (σ 9) (σ 10)) p b) t).2)), (4, .int (nI b)), (5, .int (nI t))]) hx hb dX11_sparing_107 rfl hl (by decide) rfl (fun ls hl => ?_)
                refine lv_bipush (v := 100) hx hb dX11_sparing_108 (by decide) ?_
                refine lv_iload hx hb dX11_sparing_110 (lv_at hl 5 rfl) ?_
                refine lv_imul hx hb dX11_sparing_112 ?_
                refine lv_iload hx hb dX11_sparing_113 (lv_at hl 6 rfl) ?_
                refine lv_iadd hx hb dX11_sparing_115 ?_
                refine lv_istore_n (lv' := [(3, .int ((100 * (nI b)) + (nI t))), (2, .int (worV (bSet (bk h k (σ 8) (σ 9) (σ 10)) (7 * b + 3) (nI t)) p)), (6, .int (worV (bSet (bk h k (σ 8) (σ 9) (σ 10)) (7 * b + 3) (nI t)) p)), (0, .ref (ad 0)), (1, .int p), (4, .int (nI b)), (5, .int (nI t))]) hx hb dX11_sparing_116 rfl hl (by decide) rfl (fun ls hl => ?_)
                refine lv_iinc (v := ((nI t) + 1)) (lv' := [(5, .int ((nI t) + 1)), (3, .int ((100 * (nI b)) + (nI t))), (2, .int (worV (bSet (bk h k (σ 8) (σ 9) (σ 10)) (7 * b + 3) (nI t)) p)), (6, .int (worV (bSet (bk h k (σ 8) (σ 9) (σ 10)) (7 * b + 3) (nI t)) p)), (0, .ref (ad 0)), (1, .int p), (4, .int (nI b))]) hx hb dX11_sparing_117 hl (k := 6) rfl rfl (by decide) rfl (fun ls hl => ?_)
                refine lv_goto (tgt := 69) hx hb dX11_sparing_120 (by decide) ?_
                exact ih_t (t + 1) (show (t + 1) ≤ 100 from (by omega)) (show 100 - (t + 1) < 100 - t from (by omega)) _ _ _ (hH.eq (congrArg (fun z_ : Nat → Int32 => WC G ad (ua (ua (ua (ua σ 11 (upd (upd (σ 11) 3 (σ 7 3)) 4 (σ 7 4))) 12 (σ 8)) 13 z_) 14 (σ 10))) (by exact spT_s _ _ nI _ : (upd (σ 9) (7 * b + 3) (nI t)) = (spT (σ 9) (7 * b + 3) nI (t + 1))))) (lv_eq (lv_sub hl [4, 5, 2, 1, 6, 0] rfl) (lc_s (lc_s (lc_i (by first | (rw [spI_f (Int32.not_lt.mpr c102)]; done) | (rw [spI_t (Int32.not_le.mp c102)]; done) : (worV (bSet (bk h k (σ 8) (σ 9) (σ 10)) (7 * b + 3) (nI t)) p) = (spI (bk h k (σ 8) (σ 9) (σ 10)) p b (spO (bk h k (σ 8) (σ 9) (σ 10)) p b) (t + 1)).1) (lc_i (by first | (rw [spI_f (Int32.not_lt.mpr c102)]; done) | (rw [spI_t (Int32.not_le.mp c102)]; done) : ((100 * (nI b)) + (nI t)) = (spI (bk h k (σ 8) (σ 9) (σ 10)) p b (spO (bk h k (σ 8) (σ 9) (σ 10)) p b) (t + 1)).2) (lc_s (lc_i (by exact nI_1 _ : ((nI t) + 1) = (nI (t + 1))) rfl)))))))
          · exact hH.eq (congrArg (fun z_ : Nat → Int32 => WC G ad (ua (ua (ua (ua σ 11 (upd (upd (σ 11) 3 (σ 7 3)) 4 (σ 7 4))) 12 (σ 8)) 13 z_) 14 (σ 10))) (by rfl : (σ 9) = (spT (σ 9) (7 * b + 3) nI 0)))
          · exact lv_eq (lv_sub hl [1, 2, 3, 4, 5, 0] rfl) (lc_s (lc_s (lc_i (by rfl : (spO (bk h k (σ 8) (σ 9) (σ 10)) p b).1 = (spI (bk h k (σ 8) (σ 9) (σ 10)) p b (spO (bk h k (σ 8) (σ 9) (σ 10)) p b) 0).1) (lc_i (by rfl : (spO (bk h k (σ 8) (σ 9) (σ 10)) p b).2 = (spI (bk h k (σ 8) (σ 9) (σ 10)) p b (spO (bk h k (σ 8) (σ 9) (σ 10)) p b) 0).2) (lc_s (lc_i (by rfl : 0 = (nI 0)) rfl))))))
    · exact hH.eq rfl
    · exact lv_eq (lv_sub hl [3, 4, 2, 1, 0] rfl) (lc_s (lc_s (lc_i (by rfl : worV (bk h k (σ 8) (σ 9) (σ 10)) p = (spO (bk h k (σ 8) (σ 9) (σ 10)) p 0).1) (lc_i (by rfl : (-9) = (spO (bk h k (σ 8) (σ 9) (σ 10)) p 0).2) (lc_i (by rfl : 0 = (nI 0)) rfl)))))
  · refine lv_aload_n hx hb dX11_sparing_7 rfl (lv_at hl 0 rfl) ?_
    refine lv_iconst (v := (-1)) hx hb dX11_sparing_8 (by decide) ?_
    refine x_callVA (ws' := WC G ad (ua σ 31 (upd (σ 31) 1 ((σ 31) 1 + 1)))) (As := [.int (-1)]) (rest := []) (st' := [.int (-1)]) hC hK hZ hA hl.1 hH (k_X11_refused l G ad σ (-1) 1 rfl (by decide)) lk_X11_80 rfl 0 10 rfl rfl rfl ⟨Nat.le_of_ble_eq_true rfl, Nat.le_of_ble_eq_true rfl⟩ ⟨Nat.le_refl _, Nat.le_refl _⟩ (Nat.le_of_ble_eq_true rfl) rfl dX11_sparing_9 (fun H locs hH => ?_)
    exact x_iretE (ua σ 31 (upd (σ 31) 1 ((σ 31) 1 + 1))) hC hr hkL hH (by exact rfAk (cI_f c4) (by decide)) (congrArg (fun z_ : Nat → Int32 => WC G ad (ua σ 31 z_)) (by exact rfzk (cI_f c4) (by decide) : (rfz (σ 31) (hbC p 4)) = (upd (σ 31) 1 ((σ 31) 1 + 1)))) dX11_sparing_12
set_option maxHeartbeats 4000000 in
set_option maxRecDepth 100000 in
theorem k_X11_safeOdds (l : Launch) (G : GP) (ad : Nat → Nat) (σ : Nat → Nat → Int32) (b : Int32) (h : Nat) (k : Nat) (hb3 : (σ 7 3) = nI h) (hb4 : (σ 7 4) = nI k) (hh4 : h ≤ 4) (hk6 : k ≤ 6) (hwo : WO (bk h k (σ 8) (σ 9) (σ 10)) (σ 23) (σ 24)) (hbh : BH (bk h k (σ 8) (σ 9) (σ 10))) : CTE l G yX11_safeOdds cX11_safeOdds 4 (some .int) 5 [.ref (ad 0), .int b] (WC G ad σ) (some (.int (rfA (hbC b k) (sfS (bk h k (σ 8) (σ 9) (σ 10)) (b).toNatClampNeg 10)))) (fun z => WC G ad (ua (ua (ua (ua (ua σ 11 (upd (upd (σ 11) 3 (z 11 3)) 4 (z 11 4))) 12 (z 12)) 13 (z 13)) 14 (z 14)) 31 (rfz (σ 31) (hbC b k)))) := by
  refine x_methE "BetsOnBets" rfl (by decide +kernel) (fun z => by rfl) (Nat.le_of_ble_eq_true rfl) ?_
  intro pP eE sS mM args below meth cC A ls hC hr hkL hK hZ hA hH hl
  have hx := hC.1
  have hb := hC.2.1
  have hl : lv_has ls 4 [(0, .ref (ad 0)), (1, .int b)] := hl
  have pwh := pw4 hh4
  have pwk := pw6 hk6
  have ph1 := Nat.one_le_two_pow (n := h)
  refine lv_aload_n hx hb dX11_safeOdds_0 rfl (lv_at hl 0 rfl) ?_
  refine gf_X11_28 (v := .ref (ad 7)) hC hK hH 0 rfl rfl dX11_safeOdds_1 ?_
  refine lv_iload_n hx hb dX11_safeOdds_4 rfl (lv_at hl 1 rfl) ?_
  refine x_callV (ws' := WC G ad σ) (As := [.int b]) (rest := []) (st' := [.int (bI (inb b k))]) hC hK hZ hA hl.1 hH (k_X2_hasBet l G (pk ad [7, 8, 9, 10]) (pk σ [7, 8, 9, 10]) b h k hb3 hb4 hh4 hk6) lk_X11_87 [7, 8, 9, 10] rfl rfl rfl 7 1 rfl rfl rfl ⟨Nat.le_of_ble_eq_true rfl, Nat.le_of_ble_eq_true rfl⟩ ⟨Nat.le_refl _, Nat.le_refl _⟩ (Nat.le_of_ble_eq_true rfl) rfl dX11_safeOdds_5 (fun H locs hH => ?_)
  refine x_bne (tgt := 17) hC dX11_safeOdds_8 (by decide) (fun c8 => ?_) (fun c8 => ?_)
  · obtain ⟨bj_, hbj_, eb_⟩ := inb_of (by omega) c8
    refine lv_aload_n hx hb dX11_safeOdds_17 rfl (lv_at hl 0 rfl) ?_
    refine gf_X11_32 (v := .ref (ad 11)) hC hK hH 0 rfl rfl dX11_safeOdds_18 ?_
    refine lv_aload_n hx hb dX11_safeOdds_21 rfl (lv_at hl 0 rfl) ?_
    refine gf_X11_28 (v := .ref (ad 7)) hC hK hH 0 rfl rfl dX11_safeOdds_22 ?_
    refine x_callV (ws' := WC G ad (ua (ua (ua (ua σ 11 (upd (upd (σ 11) 3 (σ 7 3)) 4 (σ 7 4))) 12 (σ 8)) 13 (σ 9)) 14 (σ 10))) (As := [.ref (ad 7)]) (rest := []) (st' := []) hC hK hZ hA hl.1 hH (k_X2_takeFrom l G (pk ad [11, 12, 13, 14, 7, 8, 9, 10]) (pk σ [11, 12, 13, 14, 7, 8, 9, 10])) lk_X11_153 [11, 12, 13, 14, 7, 8, 9, 10] rfl rfl rfl 11 1 rfl rfl rfl ⟨Nat.le_of_ble_eq_true rfl, Nat.le_of_ble_eq_true rfl⟩ ⟨Nat.le_refl _, Nat.le_refl _⟩ (Nat.le_of_ble_eq_true rfl) rfl dX11_safeOdds_25 (fun H locs hH => ?_)
    refine lv_aload_n hx hb dX11_safeOdds_28 rfl (lv_at hl 0 rfl) ?_
    refine gf_X11_28 (v := .ref (ad 7)) hC hK hH 0 rfl rfl dX11_safeOdds_29 ?_
    refine lv_iload_n hx hb dX11_safeOdds_32 rfl (lv_at hl 1 rfl) ?_
    refine lv_bipush (v := 6) hx hb dX11_safeOdds_33 (by decide) ?_
    refine x_callV (ws' := WC G ad (ua (ua (ua (ua σ 11 (upd (upd (σ 11) 3 (σ 7 3)) 4 (σ 7 4))) 12 (σ 8)) 13 (σ 9)) 14 (σ 10))) (As := [.int b, .int 6]) (rest := []) (st' := [.int ((σ 9) (7 * bj_ + 6))]) hC hK hZ hA hl.1 hH (k_X2_numberOf l G (pk ad [7, 8, 9, 10]) (pk (ua (ua (ua (ua σ 11 (upd (upd (σ 11) 3 (σ 7 3)) 4 (σ 7 4))) 12 (σ 8)) 13 (σ 9)) 14 (σ 10)) [7, 8, 9, 10]) b 6 bj_ 6 eb_ rfl (by omega) (by decide)) lk_X11_91 [7, 8, 9, 10] rfl rfl rfl 7 1 rfl rfl rfl ⟨Nat.le_of_ble_eq_true rfl, Nat.le_of_ble_eq_true rfl⟩ ⟨Nat.le_refl _, Nat.le_refl _⟩ (Nat.le_of_ble_eq_true rfl) rfl dX11_safeOdds_35 (fun H locs hH => ?_)
    refine x_topE (y := (nm (bk h k (σ 8) (σ 9) (σ 10)) bj_ 6)) rfl ?_
    refine lv_istore_n (lv' := [(2, .int (nm (bk h k (σ 8) (σ 9) (σ 10)) bj_ 6)), (0, .ref (ad 0)), (1, .int b)]) hx hb dX11_safeOdds_38 rfl hl (by decide) rfl (fun ls hl => ?_)
    refine lv_bipush (v := 9) hx hb dX11_safeOdds_39 (by decide) ?_
    refine lv_istore_n (lv' := [(3, .int 9), (2, .int (nm (bk h k (σ 8) (σ 9) (σ 10)) bj_ 6)), (0, .ref (ad 0)), (1, .int b)]) hx hb dX11_safeOdds_41 rfl hl (by decide) rfl (fun ls hl => ?_)
    refine x_loop (G := G) (A := A) (H0 := sS.heap) (nL := 4) (α := Nat) (fun q_ => 10 - q_) (fun q_ => q_ ≤ 10 ∧ sfS (bk h k (σ 8) (σ 9) (σ 10)) bj_ (10 - q_) = sfS (bk h k (σ 8) (σ 9) (σ 10)) bj_ 10) (fun q_ => WC G ad (ua (ua (ua (ua σ 11 (upd (upd (σ 11) 3 (σ 7 3)) 4 (σ 7 4))) 12 (σ 8)) 13 (spT (σ 9) (7 * bj_ + 4) oD q_)) 14 (σ 10))) (fun q_ => [(0, .ref (ad 0)), (1, .int b), (2, .int (nm (bk h k (σ 8) (σ 9) (σ 10)) bj_ 6)), (3, .int (oD q_))]) ?_ 0 (show 0 ≤ 10 ∧ sfS (bk h k (σ 8) (σ 9) (σ 10)) bj_ (10 - 0) = sfS (bk h k (σ 8) (σ 9) (σ 10)) bj_ 10 from ⟨by omega, rfl⟩) ?_ ?_
    · rintro t hi_t ih_t H locs ls hH hl
      replace hi_t : t ≤ 10 ∧ sfS (bk h k (σ 8) (σ 9) (σ 10)) bj_ (10 - t) = sfS (bk h k (σ 8) (σ 9) (σ 10)) bj_ 10 := hi_t
      replace hH : Hx G A (WC G ad (ua (ua (ua (ua σ 11 (upd (upd (σ 11) 3 (σ 7 3)) 4 (σ 7 4))) 12 (σ 8)) 13 (spT (σ 9) (7 * bj_ + 4) oD t)) 14 (σ 10))) sS.heap H locs := hH
      replace hl : lv_has ls 4 [(0, .ref (ad 0)), (1, .int b), (2, .int (nm (bk h k (σ 8) (σ 9) (σ 10)) bj_ 6)), (3, .int (oD t))] := hl
      have hi_t1 := hi_t.1
      refine lv_iload_n hx hb dX11_safeOdds_42 rfl (lv_at hl 3 rfl) ?_
      refine lv_if_lt (tgt := 76) hx hb dX11_safeOdds_43 (by decide) (fun c43 => ?_) (fun c43 => ?_)
      · refine lv_bipush (v := (-9)) hx hb dX11_safeOdds_76 (by decide) ?_
        exact x_iretE (ua (ua (ua (ua σ 11 (upd (upd (σ 11) 3 (σ 7 3)) 4 (σ 7 4))) 12 (σ 8)) 13 (spT (σ 9) (7 * bj_ + 4) oD t)) 14 (σ 10)) hC hr hkL hH (by (refine (rfA0 (cI_t c8)).trans ?_); rw [eb_, nI_clamp (by omega)]; first | exact hi_t.2.symm.trans (sfS_t t10_ (Int32.not_lt.mp c65)) | (have e10_ : t = 10 := (by have := (oD_n t (by omega)).mp c43; omega); rw [← hi_t.2, e10_]; rfl)) ((congrArg (fun z_ : Nat → Int32 => WC G ad (ua (ua (ua (ua (ua σ 11 (upd (upd (σ 11) 3 (σ 7 3)) 4 (σ 7 4))) 12 (σ 8)) 13 (spT (σ 9) (7 * bj_ + 4) oD t)) 14 (σ 10)) 31 z_)) (by exact rfz0 (cI_t c8) : (rfz (σ 31) (hbC b k)) = (σ 31))).trans (show WC G ad (ua (ua (ua (ua (ua σ 11 (upd (upd (σ 11) 3 (σ 7 3)) 4 (σ 7 4))) 12 (σ 8)) 13 (spT (σ 9) (7 * bj_ + 4) oD t)) 14 (σ 10)) 31 (σ 31)) = WC G ad (ua (ua (ua (ua σ 11 (upd (upd (σ 11) 3 (σ 7 3)) 4 (σ 7 4))) 12 (σ 8)) 13 (spT (σ 9) (7 * bj_ + 4) oD t)) 14 (σ 10)) from rfl)) dX11_safeOdds_78
      · have t10_ : t < 10 := by have := mt (oD_n t (by omega)).mpr c43; omega
        refine lv_aload_n hx hb dX11_safeOdds_46 rfl (lv_at hl 0 rfl) ?_
        refine gf_X11_32 (v := .ref (ad 11)) hC hK hH 0 rfl rfl dX11_safeOdds_47 ?_
        refine lv_iload_n hx hb dX11_safeOdds_50 rfl (lv_at hl 1 rfl) ?_
        refine lv_iconst (v := 4) hx hb dX11_safeOdds_51 (by decide) ?_
        refine lv_iload_n hx hb dX11_safeOdds_52 rfl (lv_at hl 3 rfl) ?_
        refine x_callV (ws' := WC G ad (ua (ua (ua (ua σ 11 (upd (upd (σ 11) 3 (σ 7 3)) 4 (σ 7 4))) 12 (σ 8)) 13 (upd (spT (σ 9) (7 * bj_ + 4) oD t) (7 * bj_ + 4) (oD t))) 14 (σ 10))) (As := [.int b, .int 4, .int (oD t)]) (rest := []) (st' := []) hC hK hZ hA hl.1 hH (k_X2_change l G (pk ad [11, 12, 13, 14]) (pk (ua (ua (ua (ua σ 11 (upd (upd (σ 11) 3 (σ 7 3)) 4 (σ 7 4))) 12 (σ 8)) 13 (spT (σ 9) (7 * bj_ + 4) oD t)) 14 (σ 10)) [11, 12, 13, 14]) b 4 (oD t) bj_ 4 eb_ rfl (by omega) (by decide)) lk_X11_95 [11, 12, 13, 14] rfl rfl rfl 11 1 rfl rfl rfl ⟨Nat.le_of_ble_eq_true rfl, Nat.le_of_ble_eq_true rfl⟩ ⟨Nat.le_refl _, Nat.le_refl _⟩ (Nat.le_of_ble_eq_true rfl) rfl dX11_safeOdds_53 (fun H locs hH => ?_)
        replace hH : Hx G A (WC G ad (ua (ua (ua (ua σ 11 (upd (upd (σ 11) 3 (σ 7 3)) 4 (σ 7 4))) 12 (σ 8)) 13 (upd (σ 9) (7 * bj_ + 4) (oD t))) 14 (σ 10))) sS.heap H locs := hH.eq (congrArg (fun z_ : Nat → Int32 => WC G ad (ua (ua (ua (ua σ 11 (upd (upd (σ 11) 3 (σ 7 3)) 4 (σ 7 4))) 12 (σ 8)) 13 z_) 14 (σ 10))) (by exact spT_u _ _ _ _ _ : (upd (spT (σ 9) (7 * bj_ + 4) oD t) (7 * bj_ + 4) (oD t)) = (upd (σ 9) (7 * bj_ + 4) (oD t))))
        refine lv_aload_n hx hb dX11_safeOdds_56 rfl (lv_at hl 0 rfl) ?_
        refine lv_aload_n hx hb dX11_safeOdds_57 rfl (lv_at hl 0 rfl) ?_
        refine gf_X11_32 (v := .ref (ad 11)) hC hK hH 0 rfl rfl dX11_safeOdds_58 ?_
        refine lv_iload_n hx hb dX11_safeOdds_61 rfl (lv_at hl 2 rfl) ?_
        refine x_callVA (ws' := WC G ad (ua (ua (ua (ua σ 11 (upd (upd (σ 11) 3 (σ 7 3)) 4 (σ 7 4))) 12 (σ 8)) 13 (upd (σ 9) (7 * bj_ + 4) (oD t))) 14 (σ 10))) (As := [.ref (ad 11), .int (nm (bk h k (σ 8) (σ 9) (σ 10)) bj_ 6)]) (rest := []) (st' := [.int (meanA (bk h k (σ 8) (upd (σ 9) (7 * bj_ + 4) (oD t)) (σ 10)) (nm (bk h k (σ 8) (σ 9) (σ 10)) bj_ 6))]) hC hK hZ hA hl.1 hH (k_X11_meanOf_r l G ad (ua (ua (ua (ua σ 11 (upd (upd (σ 11) 3 (σ 7 3)) 4 (σ 7 4))) 12 (σ 8)) 13 (upd (σ 9) (7 * bj_ + 4) (oD t))) 14 (σ 10)) (nm (bk h k (σ 8) (σ 9) (σ 10)) bj_ 6) h k hb3 hb4 hh4 hk6 (wo_be (β := (bSet (bk h k (σ 8) (σ 9) (σ 10)) (7 * bj_ + 4) (oD t))) (γ := (bk h k (σ 8) (σ 9) (σ 10))) (be_set (by decide) (by decide)) hwo) (bh_set (β := (bk h k (σ 8) (σ 9) (σ 10))) hbh (by decide))) lk_X11_128 rfl 0 10 rfl rfl rfl ⟨Nat.le_of_ble_eq_true rfl, Nat.le_of_ble_eq_true rfl⟩ ⟨Nat.le_refl _, Nat.le_refl _⟩ (Nat.le_of_ble_eq_true rfl) rfl dX11_safeOdds_62 (fun H locs hH => ?_)
        refine x_topE (y := (sfM (bk h k (σ 8) (σ 9) (σ 10)) bj_ (oD t))) (by rw [sfM, nm_set (β := (bk h k (σ 8) (σ 9) (σ 10))) bj_ 6 (by decide) (by decide) (by decide)]; rfl) ?_
        refine lv_if_lt (tgt := 70) hx hb dX11_safeOdds_65 (by decide) (fun c65 => ?_) (fun c65 => ?_)
        · refine lv_iinc (v := ((oD t) + (-1))) (lv' := [(3, .int ((oD t) + (-1))), (0, .ref (ad 0)), (1, .int b), (2, .int (nm (bk h k (σ 8) (σ 9) (σ 10)) bj_ 6))]) hx hb dX11_safeOdds_70 hl (k := 3) rfl rfl (by decide) rfl (fun ls hl => ?_)
          refine lv_goto (tgt := 42) hx hb dX11_safeOdds_73 (by decide) ?_
          exact ih_t (t + 1) (show (t + 1) ≤ 10 ∧ sfS (bk h k (σ 8) (σ 9) (σ 10)) bj_ (10 - (t + 1)) = sfS (bk h k (σ 8) (σ 9) (σ 10)) bj_ 10 from ⟨by omega, (sfS_f t10_ (Int32.not_le.mpr c65)).symm.trans hi_t.2⟩) (show 10 - (t + 1) < 10 - t from (by omega)) _ _ _ (hH.eq (congrArg (fun z_ : Nat → Int32 => WC G ad (ua (ua (ua (ua σ 11 (upd (upd (σ 11) 3 (σ 7 3)) 4 (σ 7 4))) 12 (σ 8)) 13 z_) 14 (σ 10))) (by exact spT_s _ _ oD _ : (upd (σ 9) (7 * bj_ + 4) (oD t)) = (spT (σ 9) (7 * bj_ + 4) oD (t + 1))))) (lv_eq (lv_sub hl [1, 2, 3, 0] rfl) (lc_s (lc_s (lc_s (lc_i (by exact oD_1 _ (by omega) : ((oD t) + (-1)) = (oD (t + 1))) rfl)))))
        · refine lv_iload_n hx hb dX11_safeOdds_68 rfl (lv_at hl 3 rfl) ?_
          exact x_iretE (ua (ua (ua (ua σ 11 (upd (upd (σ 11) 3 (σ 7 3)) 4 (σ 7 4))) 12 (σ 8)) 13 (upd (σ 9) (7 * bj_ + 4) (oD t))) 14 (σ 10)) hC hr hkL hH (by (refine (rfA0 (cI_t c8)).trans ?_); rw [eb_, nI_clamp (by omega)]; first | exact hi_t.2.symm.trans (sfS_t t10_ (Int32.not_lt.mp c65)) | (have e10_ : t = 10 := (by have := (oD_n t (by omega)).mp c43; omega); rw [← hi_t.2, e10_]; rfl)) ((congrArg (fun z_ : Nat → Int32 => WC G ad (ua (ua (ua (ua (ua σ 11 (upd (upd (σ 11) 3 (σ 7 3)) 4 (σ 7 4))) 12 (σ 8)) 13 (upd (σ 9) (7 * bj_ + 4) (oD t))) 14 (σ 10)) 31 z_)) (by exact rfz0 (cI_t c8) : (rfz (σ 31) (hbC b k)) = (σ 31))).trans (show WC G ad (ua (ua (ua (ua (ua σ 11 (upd (upd (σ 11) 3 (σ 7 3)) 4 (σ 7 4))) 12 (σ 8)) 13 (upd (σ 9) (7 * bj_ + 4) (oD t))) 14 (σ 10)) 31 (σ 31)) = WC G ad (ua (ua (ua (ua σ 11 (upd (upd (σ 11) 3 (σ 7 3)) 4 (σ 7 4))) 12 (σ 8)) 13 (upd (σ 9) (7 * bj_ + 4) (oD t))) 14 (σ 10)) from rfl)) dX11_safeOdds_69
    · exact hH.eq (congrArg (fun z_ : Nat → Int32 => WC G ad (ua (ua (ua (ua σ 11 (upd (upd (σ 11) 3 (σ 7 3)) 4 (σ 7 4))) 12 (σ 8)) 13 z_) 14 (σ 10))) (by rfl : (σ 9) = (spT (σ 9) (7 * bj_ + 4) oD 0)))
    · exact lv_eq (lv_sub hl [2, 3, 1, 0] rfl) (lc_s (lc_s (lc_s (lc_i (by rfl : 9 = (oD 0)) rfl))))
  · refine lv_aload_n hx hb dX11_safeOdds_11 rfl (lv_at hl 0 rfl) ?_
    refine lv_iconst (v := (-1)) hx hb dX11_safeOdds_12 (by decide) ?_
    refine x_callVA (ws' := WC G ad (ua σ 31 (upd (σ 31) 1 ((σ 31) 1 + 1)))) (As := [.int (-1)]) (rest := []) (st' := [.int (-1)]) hC hK hZ hA hl.1 hH (k_X11_refused l G ad σ (-1) 1 rfl (by decide)) lk_X11_80 rfl 0 10 rfl rfl rfl ⟨Nat.le_of_ble_eq_true rfl, Nat.le_of_ble_eq_true rfl⟩ ⟨Nat.le_refl _, Nat.le_refl _⟩ (Nat.le_of_ble_eq_true rfl) rfl dX11_safeOdds_13 (fun H locs hH => ?_)
    exact x_iretE (ua σ 31 (upd (σ 31) 1 ((σ 31) 1 + 1))) hC hr hkL hH (by exact rfAk (cI_f c8) (by decide)) (congrArg (fun z_ : Nat → Int32 => WC G ad (ua σ 31 z_)) (by exact rfzk (cI_f c8) (by decide) : (rfz (σ 31) (hbC b k)) = (upd (σ 31) 1 ((σ 31) 1 + 1)))) dX11_safeOdds_16
set_option maxHeartbeats 4000000 in
set_option maxRecDepth 100000 in
theorem k_X11_rings (l : Launch) (G : GP) (ad : Nat → Nat) (σ : Nat → Nat → Int32) (h : Nat) (k : Nat) (hb3 : (σ 7 3) = nI h) (hb4 : (σ 7 4) = nI k) (hh4 : h ≤ 4) (hk6 : k ≤ 6) (hkd : KD (σ 9) k) : CTE l G yX11_rings cX11_rings 3 (some .int) 3 [.ref (ad 0)] (WC G ad σ) (some (.int (waA (waO (cpyF (laF (bk h k (σ 8) (σ 9) (σ 10))) (σ 33) k) k k) k))) (fun z => WC G ad (ua σ 33 (z 33))) := by
  refine x_methE "BetsOnBets" rfl (by decide +kernel) (fun z => by rfl) (Nat.le_of_ble_eq_true rfl) ?_
  intro pP eE sS mM args below meth cC A ls hC hr hkL hK hZ hA hH hl
  have hx := hC.1
  have hb := hC.2.1
  have hl : lv_has ls 3 [(0, .ref (ad 0))] := hl
  have pwh := pw4 hh4
  have pwk := pw6 hk6
  have ph1 := Nat.one_le_two_pow (n := h)
  refine lv_iconst (v := 0) hx hb dX11_rings_0 (by decide) ?_
  refine lv_istore_n (lv' := [(1, .int 0), (0, .ref (ad 0))]) hx hb dX11_rings_1 rfl hl (by decide) rfl (fun ls hl => ?_)
  refine x_loop (G := G) (A := A) (H0 := sS.heap) (nL := 3) (α := Nat) (fun q_ => k - q_) (fun q_ => q_ ≤ k) (fun q_ => WC G ad (ua σ 33 (cpyF (laF (bk h k (σ 8) (σ 9) (σ 10))) (σ 33) q_))) (fun q_ => [(0, .ref (ad 0)), (1, .int (nI q_))]) ?_ 0 (show 0 ≤ k from (Nat.zero_le _)) ?_ ?_
  · rintro b hi_b ih_b H locs ls hH hl
    replace hi_b : b ≤ k := hi_b
    replace hH : Hx G A (WC G ad (ua σ 33 (cpyF (laF (bk h k (σ 8) (σ 9) (σ 10))) (σ 33) b))) sS.heap H locs := hH
    replace hl : lv_has ls 3 [(0, .ref (ad 0)), (1, .int (nI b))] := hl
    refine lv_iload_n hx hb dX11_rings_2 rfl (lv_at hl 1 rfl) ?_
    refine lv_aload_n hx hb dX11_rings_3 rfl (lv_at hl 0 rfl) ?_
    refine gf_X11_28 (v := .ref (ad 7)) hC hK hH 0 rfl rfl dX11_rings_4 ?_
    refine gf_X11_160 (v := .int (σ 7 4)) hC hK hH 7 rfl rfl dX11_rings_7 ?_
    refine x_topE (y := (nI k)) hb4 ?_
    refine lv_icmp_ge (tgt := 39) hx hb dX11_rings_10 (by decide) (fun c10 => ?_) (fun c10 => ?_)
    · have ge_b := lp_out (n := k) rfl (by omega) (by omega) c10
      have eq_b : b = k := by omega
      refine lv_iconst (v := 0) hx hb dX11_rings_39 (by decide) ?_
      refine lv_istore_n (lv' := [(1, .int 0), (0, .ref (ad 0))]) hx hb dX11_rings_40 rfl hl (by decide) rfl (fun ls hl => ?_)
      refine x_loop (G := G) (A := A) (H0 := sS.heap) (nL := 3) (α := Nat) (fun q_ => k - q_) (fun q_ => q_ ≤ k) (fun q_ => WC G ad (ua σ 33 (waO (cpyF (laF (bk h k (σ 8) (σ 9) (σ 10))) (σ 33) k) k q_))) (fun q_ => [(0, .ref (ad 0)), (1, .int (nI q_))]) ?_ 0 (show 0 ≤ k from (Nat.zero_le _)) ?_ ?_
      · rintro m hi_m ih_m H locs ls hH hl
        replace hi_m : m ≤ k := hi_m
        replace hH : Hx G A (WC G ad (ua σ 33 (waO (cpyF (laF (bk h k (σ 8) (σ 9) (σ 10))) (σ 33) k) k m))) sS.heap H locs := hH
        replace hl : lv_has ls 3 [(0, .ref (ad 0)), (1, .int (nI m))] := hl
        refine lv_iload_n hx hb dX11_rings_41 rfl (lv_at hl 1 rfl) ?_
        refine lv_aload_n hx hb dX11_rings_42 rfl (lv_at hl 0 rfl) ?_
        refine gf_X11_28 (v := .ref (ad 7)) hC hK hH 0 rfl rfl dX11_rings_43 ?_
        refine gf_X11_160 (v := .int (σ 7 4)) hC hK hH 7 rfl rfl dX11_rings_46 ?_
        refine x_topE (y := (nI k)) hb4 ?_
        refine lv_icmp_ge (tgt := 117) hx hb dX11_rings_49 (by decide) (fun c49 => ?_) (fun c49 => ?_)
        · have ge_m := lp_out (n := k) rfl (by omega) (by omega) c49
          have eq_m : m = k := by omega
          replace hH : Hx G A (WC G ad (ua σ 33 (waO (cpyF (laF (bk h k (σ 8) (σ 9) (σ 10))) (σ 33) k) k k))) sS.heap H locs := hH.eq (congrArg (fun z_ : Nat → Int32 => WC G ad (ua σ 33 z_)) (by rw [eq_m] : (waO (cpyF (laF (bk h k (σ 8) (σ 9) (σ 10))) (σ 33) k) k m) = (waO (cpyF (laF (bk h k (σ 8) (σ 9) (σ 10))) (σ 33) k) k k)))
          refine lv_iconst (v := 0) hx hb dX11_rings_117 (by decide) ?_
          refine lv_istore_n (lv' := [(1, .int 0), (0, .ref (ad 0))]) hx hb dX11_rings_118 rfl hl (by decide) rfl (fun ls hl => ?_)
          refine lv_iconst (v := 0) hx hb dX11_rings_119 (by decide) ?_
          refine lv_istore_n (lv' := [(2, .int 0), (1, .int 0), (0, .ref (ad 0))]) hx hb dX11_rings_120 rfl hl (by decide) rfl (fun ls hl => ?_)
          refine x_loop (G := G) (A := A) (H0 := sS.heap) (nL := 3) (α := Nat) (fun q_ => k - q_) (fun q_ => q_ ≤ k) (fun q_ => WC G ad (ua σ 33 (waO (cpyF (laF (bk h k (σ 8) (σ 9) (σ 10))) (σ 33) k) k k))) (fun q_ => [(0, .ref (ad 0)), (1, .int (waA (waO (cpyF (laF (bk h k (σ 8) (σ 9) (σ 10))) (σ 33) k) k k) q_)), (2, .int (nI q_))]) ?_ 0 (show 0 ≤ k from (Nat.zero_le _)) ?_ ?_
          · rintro d hi_d ih_d H locs ls hH hl
            replace hi_d : d ≤ k := hi_d
            replace hH : Hx G A (WC G ad (ua σ 33 (waO (cpyF (laF (bk h k (σ 8) (σ 9) (σ 10))) (σ 33) k) k k))) sS.heap H locs := hH
            replace hl : lv_has ls 3 [(0, .ref (ad 0)), (1, .int (waA (waO (cpyF (laF (bk h k (σ 8) (σ 9) (σ 10))) (σ 33) k) k k) d)), (2, .int (nI d))] := hl
            refine lv_iload_n hx hb dX11_rings_121 rfl (lv_at hl 2 rfl) ?_
            refine lv_aload_n hx hb dX11_rings_122 rfl (lv_at hl 0 rfl) ?_
            refine gf_X11_28 (v := .ref (ad 7)) hC hK hH 0 rfl rfl dX11_rings_123 ?_
            refine gf_X11_160 (v := .int (σ 7 4)) hC hK hH 7 rfl rfl dX11_rings_126 ?_
            refine x_topE (y := (nI k)) hb4 ?_
            refine lv_icmp_ge (tgt := 153) hx hb dX11_rings_129 (by decide) (fun c129 => ?_) (fun c129 => ?_)
            · have ge_d := lp_out (n := k) rfl (by omega) (by omega) c129
              have eq_d : d = k := by omega
              refine lv_iload_n hx hb dX11_rings_153 rfl (lv_at hl 1 rfl) ?_
              exact x_iretE (ua σ 33 (waO (cpyF (laF (bk h k (σ 8) (σ 9) (σ 10))) (σ 33) k) k k)) hC hr hkL hH (by rw [eq_d]) rfl dX11_rings_154
            · have lt_d := lp_in (n := k) rfl (by omega) (by omega) c129
              refine lv_iload_n hx hb dX11_rings_132 rfl (lv_at hl 1 rfl) ?_
              refine lv_aload_n hx hb dX11_rings_133 rfl (lv_at hl 0 rfl) ?_
              refine gf_X11_52 (v := .ref (ad 33)) hC hK hH 0 rfl rfl dX11_rings_134 ?_
              refine lv_iload_n hx hb dX11_rings_137 rfl (lv_at hl 2 rfl) ?_
              refine x_callS (ws' := WC G ad (ua σ 33 (waO (cpyF (laF (bk h k (σ 8) (σ 9) (σ 10))) (σ 33) k) k k))) (As := [.ref (ad 33), .int (nI d)]) (rest := [.int (waA (waO (cpyF (laF (bk h k (σ 8) (σ 9) (σ 10))) (σ 33) k) k k) d)]) (st' := [.int (atF (waO (cpyF (laF (bk h k (σ 8) (σ 9) (σ 10))) (σ 33) k) k k) 6 (nI d)), .int (waA (waO (cpyF (laF (bk h k (σ 8) (σ 9) (σ 10))) (σ 33) k) k k) d)]) hC hK hZ hA hl.1 hH (k_X11_at l G 6 (pk ad [33]) (pk (ua σ 33 (waO (cpyF (laF (bk h k (σ 8) (σ 9) (σ 10))) (σ 33) k) k k)) [33]) (nI d) (by decide)) lk_X11_173 [33] rfl rfl rfl rfl ⟨Nat.le_of_ble_eq_true rfl, Nat.le_of_ble_eq_true rfl⟩ ⟨Nat.le_refl _, Nat.le_refl _⟩ (Nat.le_of_ble_eq_true rfl) rfl dX11_rings_138 (fun H locs hH => ?_)
              refine x_topE (y := ((waO (cpyF (laF (bk h k (σ 8) (σ 9) (σ 10))) (σ 33) k) k k) d)) (atF_in rfl (by omega) (by decide)) ?_
              refine lv_iconst (v := 1) hx hb dX11_rings_141 (by decide) ?_
              refine lv_iload_n hx hb dX11_rings_142 rfl (lv_at hl 2 rfl) ?_
              refine lv_ishl hx hb dX11_rings_143 ?_
              refine lv_iand hx hb dX11_rings_144 ?_
              refine lv_ior hx hb dX11_rings_145 ?_
              refine lv_istore_n (lv' := [(1, .int ((waA (waO (cpyF (laF (bk h k (σ 8) (σ 9) (σ 10))) (σ 33) k) k k) d) ||| (((waO (cpyF (laF (bk h k (σ 8) (σ 9) (σ 10))) (σ 33) k) k k) d) &&& ((1 : Int32) <<< ((nI d) &&& 31))))), (0, .ref (ad 0)), (2, .int (nI d))]) hx hb dX11_rings_146 rfl hl (by decide) rfl (fun ls hl => ?_)
              refine lv_iinc (v := ((nI d) + 1)) (lv' := [(2, .int ((nI d) + 1)), (1, .int ((waA (waO (cpyF (laF (bk h k (σ 8) (σ 9) (σ 10))) (σ 33) k) k k) d) ||| (((waO (cpyF (laF (bk h k (σ 8) (σ 9) (σ 10))) (σ 33) k) k k) d) &&& ((1 : Int32) <<< ((nI d) &&& 31))))), (0, .ref (ad 0))]) hx hb dX11_rings_147 hl (k := 2) rfl rfl (by decide) rfl (fun ls hl => ?_)
              refine lv_goto (tgt := 121) hx hb dX11_rings_150 (by decide) ?_
              exact ih_d (d + 1) (show (d + 1) ≤ k from (by omega)) (show k - (d + 1) < k - d from (by omega)) _ _ _ (hH.eq rfl) (lv_eq (lv_sub hl [2, 1, 0] rfl) (lc_s (lc_i (by rfl : ((waA (waO (cpyF (laF (bk h k (σ 8) (σ 9) (σ 10))) (σ 33) k) k k) d) ||| (((waO (cpyF (laF (bk h k (σ 8) (σ 9) (σ 10))) (σ 33) k) k k) d) &&& ((1 : Int32) <<< ((nI d) &&& 31)))) = (waA (waO (cpyF (laF (bk h k (σ 8) (σ 9) (σ 10))) (σ 33) k) k k) (d + 1))) (lc_i (by exact nI_1 _ : ((nI d) + 1) = (nI (d + 1))) rfl))))
          · exact hH.eq rfl
          · exact lv_eq (lv_sub hl [2, 1, 0] rfl) (lc_s (lc_i (by rfl : 0 = (waA (waO (cpyF (laF (bk h k (σ 8) (σ 9) (σ 10))) (σ 33) k) k k) 0)) (lc_i (by rfl : 0 = (nI 0)) rfl)))
        · have lt_m := lp_in (n := k) rfl (by omega) (by omega) c49
          refine lv_iconst (v := 0) hx hb dX11_rings_52 (by decide) ?_
          refine lv_istore_n (lv' := [(2, .int 0), (0, .ref (ad 0)), (1, .int (nI m))]) hx hb dX11_rings_53 rfl hl (by decide) rfl (fun ls hl => ?_)
          refine x_loop (G := G) (A := A) (H0 := sS.heap) (nL := 3) (α := Nat) (fun q_ => k - q_) (fun q_ => q_ ≤ k) (fun q_ => WC G ad (ua σ 33 (waI (waO (cpyF (laF (bk h k (σ 8) (σ 9) (σ 10))) (σ 33) k) k m) m q_))) (fun q_ => [(0, .ref (ad 0)), (1, .int (nI m)), (2, .int (nI q_))]) ?_ 0 (show 0 ≤ k from (Nat.zero_le _)) ?_ ?_
          · rintro i hi_i ih_i H locs ls hH hl
            replace hi_i : i ≤ k := hi_i
            replace hH : Hx G A (WC G ad (ua σ 33 (waI (waO (cpyF (laF (bk h k (σ 8) (σ 9) (σ 10))) (σ 33) k) k m) m i))) sS.heap H locs := hH
            replace hl : lv_has ls 3 [(0, .ref (ad 0)), (1, .int (nI m)), (2, .int (nI i))] := hl
            refine lv_iload_n hx hb dX11_rings_54 rfl (lv_at hl 2 rfl) ?_
            refine lv_aload_n hx hb dX11_rings_55 rfl (lv_at hl 0 rfl) ?_
            refine gf_X11_28 (v := .ref (ad 7)) hC hK hH 0 rfl rfl dX11_rings_56 ?_
            refine gf_X11_160 (v := .int (σ 7 4)) hC hK hH 7 rfl rfl dX11_rings_59 ?_
            refine x_topE (y := (nI k)) hb4 ?_
            refine lv_icmp_ge (tgt := 111) hx hb dX11_rings_62 (by decide) (fun c62 => ?_) (fun c62 => ?_)
            · have ge_i := lp_out (n := k) rfl (by omega) (by omega) c62
              have eq_i : i = k := by omega
              refine lv_iinc (v := ((nI m) + 1)) (lv' := [(1, .int ((nI m) + 1)), (0, .ref (ad 0)), (2, .int (nI i))]) hx hb dX11_rings_111 hl (k := 1) rfl rfl (by decide) rfl (fun ls hl => ?_)
              refine lv_goto (tgt := 41) hx hb dX11_rings_114 (by decide) ?_
              exact ih_m (m + 1) (show (m + 1) ≤ k from (by omega)) (show k - (m + 1) < k - m from (by omega)) _ _ _ (hH.eq (congrArg (fun z_ : Nat → Int32 => WC G ad (ua σ 33 z_)) (by rw [eq_i]; rfl : (waI (waO (cpyF (laF (bk h k (σ 8) (σ 9) (σ 10))) (σ 33) k) k m) m i) = (waO (cpyF (laF (bk h k (σ 8) (σ 9) (σ 10))) (σ 33) k) k (m + 1))))) (lv_eq (lv_sub hl [1, 0] rfl) (lc_s (lc_i (by exact nI_1 _ : ((nI m) + 1) = (nI (m + 1))) rfl)))
            · have lt_i := lp_in (n := k) rfl (by omega) (by omega) c62
              refine lv_aload_n hx hb dX11_rings_65 rfl (lv_at hl 0 rfl) ?_
              refine gf_X11_52 (v := .ref (ad 33)) hC hK hH 0 rfl rfl dX11_rings_66 ?_
              refine lv_iload_n hx hb dX11_rings_69 rfl (lv_at hl 2 rfl) ?_
              refine x_callS (ws' := WC G ad (ua σ 33 (waI (waO (cpyF (laF (bk h k (σ 8) (σ 9) (σ 10))) (σ 33) k) k m) m i))) (As := [.ref (ad 33), .int (nI i)]) (rest := []) (st' := [.int (atF (waI (waO (cpyF (laF (bk h k (σ 8) (σ 9) (σ 10))) (σ 33) k) k m) m i) 6 (nI i))]) hC hK hZ hA hl.1 hH (k_X11_at l G 6 (pk ad [33]) (pk (ua σ 33 (waI (waO (cpyF (laF (bk h k (σ 8) (σ 9) (σ 10))) (σ 33) k) k m) m i)) [33]) (nI i) (by decide)) lk_X11_173 [33] rfl rfl rfl rfl ⟨Nat.le_of_ble_eq_true rfl, Nat.le_of_ble_eq_true rfl⟩ ⟨Nat.le_refl _, Nat.le_refl _⟩ (Nat.le_of_ble_eq_true rfl) rfl dX11_rings_70 (fun H locs hH => ?_)
              refine x_topE (y := ((waI (waO (cpyF (laF (bk h k (σ 8) (σ 9) (σ 10))) (σ 33) k) k m) m i) i)) (atF_in rfl (by omega) (by decide)) ?_
              refine lv_iload_n hx hb dX11_rings_73 rfl (lv_at hl 1 rfl) ?_
              refine x_callS (ws' := WC G ad (ua σ 33 (waI (waO (cpyF (laF (bk h k (σ 8) (σ 9) (σ 10))) (σ 33) k) k m) m i))) (As := [.int ((waI (waO (cpyF (laF (bk h k (σ 8) (σ 9) (σ 10))) (σ 33) k) k m) m i) i), .int (nI m)]) (rest := []) (st' := [.int (bI (tb ((waI (waO (cpyF (laF (bk h k (σ 8) (σ 9) (σ 10))) (σ 33) k) k m) m i) i) (nI m)))]) hC hK hZ hA hl.1 hH (k_X11_has l G (pk ad []) (pk (ua σ 33 (waI (waO (cpyF (laF (bk h k (σ 8) (σ 9) (σ 10))) (σ 33) k) k m) m i)) []) ((waI (waO (cpyF (laF (bk h k (σ 8) (σ 9) (σ 10))) (σ 33) k) k m) m i) i) (nI m)) lk_X11_177 [] rfl rfl rfl rfl ⟨Nat.le_of_ble_eq_true rfl, Nat.le_of_ble_eq_true rfl⟩ ⟨Nat.le_refl _, Nat.le_refl _⟩ (Nat.le_of_ble_eq_true rfl) rfl dX11_rings_74 (fun H locs hH => ?_)
              refine x_beq (tgt := 105) hC dX11_rings_77 (by decide) (fun c77 => ?_) (fun c77 => ?_)
              · skip
                refine lv_iinc (v := ((nI i) + 1)) (lv' := [(2, .int ((nI i) + 1)), (0, .ref (ad 0)), (1, .int (nI m))]) hx hb dX11_rings_105 hl (k := 2) rfl rfl (by decide) rfl (fun ls hl => ?_)
                refine lv_goto (tgt := 54) hx hb dX11_rings_108 (by decide) ?_
                exact ih_i (i + 1) (show (i + 1) ≤ k from (by omega)) (show k - (i + 1) < k - i from (by omega)) _ _ _ (hH.eq (congrArg (fun z_ : Nat → Int32 => WC G ad (ua σ 33 z_)) (by first | exact waI_t c77 | exact waI_f c77 : (waI (waO (cpyF (laF (bk h k (σ 8) (σ 9) (σ 10))) (σ 33) k) k m) m i) = (waI (waO (cpyF (laF (bk h k (σ 8) (σ 9) (σ 10))) (σ 33) k) k m) m (i + 1))))) (lv_eq (lv_sub hl [1, 2, 0] rfl) (lc_s (lc_s (lc_i (by exact nI_1 _ : ((nI i) + 1) = (nI (i + 1))) rfl))))
              · refine lv_aload_n hx hb dX11_rings_80 rfl (lv_at hl 0 rfl) ?_
                refine gf_X11_52 (v := .ref (ad 33)) hC hK hH 0 rfl rfl dX11_rings_81 ?_
                refine lv_iload_n hx hb dX11_rings_84 rfl (lv_at hl 2 rfl) ?_
                refine lv_aload_n hx hb dX11_rings_85 rfl (lv_at hl 0 rfl) ?_
                refine gf_X11_52 (v := .ref (ad 33)) hC hK hH 0 rfl rfl dX11_rings_86 ?_
                refine lv_iload_n hx hb dX11_rings_89 rfl (lv_at hl 2 rfl) ?_
                refine x_callS (ws' := WC G ad (ua σ 33 (waI (waO (cpyF (laF (bk h k (σ 8) (σ 9) (σ 10))) (σ 33) k) k m) m i))) (As := [.ref (ad 33), .int (nI i)]) (rest := [.int (nI i), .ref (ad 33)]) (st' := [.int (atF (waI (waO (cpyF (laF (bk h k (σ 8) (σ 9) (σ 10))) (σ 33) k) k m) m i) 6 (nI i)), .int (nI i), .ref (ad 33)]) hC hK hZ hA hl.1 hH (k_X11_at l G 6 (pk ad [33]) (pk (ua σ 33 (waI (waO (cpyF (laF (bk h k (σ 8) (σ 9) (σ 10))) (σ 33) k) k m) m i)) [33]) (nI i) (by decide)) lk_X11_173 [33] rfl rfl rfl rfl ⟨Nat.le_of_ble_eq_true rfl, Nat.le_of_ble_eq_true rfl⟩ ⟨Nat.le_refl _, Nat.le_refl _⟩ (Nat.le_of_ble_eq_true rfl) rfl dX11_rings_90 (fun H locs hH => ?_)
                refine x_topE (y := ((waI (waO (cpyF (laF (bk h k (σ 8) (σ 9) (σ 10))) (σ 33) k) k m) m i) i)) (atF_in rfl (by omega) (by decide)) ?_
                refine lv_aload_n hx hb dX11_rings_93 rfl (lv_at hl 0 rfl) ?_
                refine gf_X11_52 (v := .ref (ad 33)) hC hK hH 0 rfl rfl dX11_rings_94 ?_
                refine lv_iload_n hx hb dX11_rings_97 rfl (lv_at hl 1 rfl) ?_
                refine x_callS (ws' := WC G ad (ua σ 33 (waI (waO (cpyF (laF (bk h k (σ 8) (σ 9) (σ 10))) (σ 33) k) k m) m i))) (As := [.ref (ad 33), .int (nI m)]) (rest := [.int ((waI (waO (cpyF (laF (bk h k (σ 8) (σ 9) (σ 10))) (σ 33) k) k m) m i) i), .int (nI i), .ref (ad 33)]) (st' := [.int (atF (waI (waO (cpyF (laF (bk h k (σ 8) (σ 9) (σ 10))) (σ 33) k) k m) m i) 6 (nI m)), .int ((waI (waO (cpyF (laF (bk h k (σ 8) (σ 9) (σ 10))) (σ 33) k) k m) m i) i), .int (nI i), .ref (ad 33)]) hC hK hZ hA hl.1 hH (k_X11_at l G 6 (pk ad [33]) (pk (ua σ 33 (waI (waO (cpyF (laF (bk h k (σ 8) (σ 9) (σ 10))) (σ 33) k) k m) m i)) [33]) (nI m) (by decide)) lk_X11_173 [33] rfl rfl rfl rfl ⟨Nat.le_of_ble_eq_true rfl, Nat.le_of_ble_eq_true rfl⟩ ⟨Nat.le_refl _, Nat.le_refl _⟩ (Nat.le_of_ble_eq_true rfl) rfl dX11_rings_98 (fun H locs hH => ?_)
                refine x_topE (y := ((waI (waO (cpyF (laF (bk h k (σ 8) (σ 9) (σ 10))) (σ 33) k) k m) m i) m)) (atF_in rfl (by omega) (by decide)) ?_
                refine lv_ior hx hb dX11_rings_101 ?_
                refine x_callS (ws' := WC G ad (ua σ 33 (putF (waI (waO (cpyF (laF (bk h k (σ 8) (σ 9) (σ 10))) (σ 33) k) k m) m i) 6 (nI i) (((waI (waO (cpyF (laF (bk h k (σ 8) (σ 9) (σ 10))) (σ 33) k) k m) m i) i) ||| ((waI (waO (cpyF (laF (bk h k (σ 8) (σ 9) (σ 10))) (σ 33) k) k m) m i) m))))) (As := [.ref (ad 33), .int (nI i), .int (((waI (waO (cpyF (laF (bk h k (σ 8) (σ 9) (σ 10))) (σ 33) k) k m) m i) i) ||| ((waI (waO (cpyF (laF (bk h k (σ 8) (σ 9) (σ 10))) (σ 33) k) k m) m i) m))]) (rest := []) (st' := []) hC hK hZ hA hl.1 hH (k_X11_put l G 6 (pk ad [33]) (pk (ua σ 33 (waI (waO (cpyF (laF (bk h k (σ 8) (σ 9) (σ 10))) (σ 33) k) k m) m i)) [33]) (nI i) (((waI (waO (cpyF (laF (bk h k (σ 8) (σ 9) (σ 10))) (σ 33) k) k m) m i) i) ||| ((waI (waO (cpyF (laF (bk h k (σ 8) (σ 9) (σ 10))) (σ 33) k) k m) m i) m)) (by decide)) lk_X11_169 [33] rfl rfl rfl rfl ⟨Nat.le_of_ble_eq_true rfl, Nat.le_of_ble_eq_true rfl⟩ ⟨Nat.le_refl _, Nat.le_refl _⟩ (Nat.le_of_ble_eq_true rfl) rfl dX11_rings_102 (fun H locs hH => ?_)
                replace hH : Hx G A (WC G ad (ua σ 33 (upd (waI (waO (cpyF (laF (bk h k (σ 8) (σ 9) (σ 10))) (σ 33) k) k m) m i) i (waI (waO (cpyF (laF (bk h k (σ 8) (σ 9) (σ 10))) (σ 33) k) k m) m i i ||| waI (waO (cpyF (laF (bk h k (σ 8) (σ 9) (σ 10))) (σ 33) k) k m) m i m)))) sS.heap H locs := hH.eq (congrArg (fun z_ : Nat → Int32 => WC G ad (ua σ 33 z_)) (by exact putF_in rfl (by omega) (by decide) : (putF (waI (waO (cpyF (laF (bk h k (σ 8) (σ 9) (σ 10))) (σ 33) k) k m) m i) 6 (nI i) (((waI (waO (cpyF (laF (bk h k (σ 8) (σ 9) (σ 10))) (σ 33) k) k m) m i) i) ||| ((waI (waO (cpyF (laF (bk h k (σ 8) (σ 9) (σ 10))) (σ 33) k) k m) m i) m))) = (upd (waI (waO (cpyF (laF (bk h k (σ 8) (σ 9) (σ 10))) (σ 33) k) k m) m i) i (waI (waO (cpyF (laF (bk h k (σ 8) (σ 9) (σ 10))) (σ 33) k) k m) m i i ||| waI (waO (cpyF (laF (bk h k (σ 8) (σ 9) (σ 10))) (σ 33) k) k m) m i m))))
                refine lv_iinc (v := ((nI i) + 1)) (lv' := [(2, .int ((nI i) + 1)), (0, .ref (ad 0)), (1, .int (nI m))]) hx hb dX11_rings_105 hl (k := 2) rfl rfl (by decide) rfl (fun ls hl => ?_)
                refine lv_goto (tgt := 54) hx hb dX11_rings_108 (by decide) ?_
                exact ih_i (i + 1) (show (i + 1) ≤ k from (by omega)) (show k - (i + 1) < k - i from (by omega)) _ _ _ (hH.eq (congrArg (fun z_ : Nat → Int32 => WC G ad (ua σ 33 z_)) (by first | exact waI_t c77 | exact waI_f c77 : (upd (waI (waO (cpyF (laF (bk h k (σ 8) (σ 9) (σ 10))) (σ 33) k) k m) m i) i (waI (waO (cpyF (laF (bk h k (σ 8) (σ 9) (σ 10))) (σ 33) k) k m) m i i ||| waI (waO (cpyF (laF (bk h k (σ 8) (σ 9) (σ 10))) (σ 33) k) k m) m i m)) = (waI (waO (cpyF (laF (bk h k (σ 8) (σ 9) (σ 10))) (σ 33) k) k m) m (i + 1))))) (lv_eq (lv_sub hl [1, 2, 0] rfl) (lc_s (lc_s (lc_i (by exact nI_1 _ : ((nI i) + 1) = (nI (i + 1))) rfl))))
          · exact hH.eq (congrArg (fun z_ : Nat → Int32 => WC G ad (ua σ 33 z_)) (by rfl : (waO (cpyF (laF (bk h k (σ 8) (σ 9) (σ 10))) (σ 33) k) k m) = (waI (waO (cpyF (laF (bk h k (σ 8) (σ 9) (σ 10))) (σ 33) k) k m) m 0)))
          · exact lv_eq (lv_sub hl [1, 2, 0] rfl) (lc_s (lc_s (lc_i (by rfl : 0 = (nI 0)) rfl)))
      · exact hH.eq (congrArg (fun z_ : Nat → Int32 => WC G ad (ua σ 33 z_)) (by rw [eq_b]; rfl : (cpyF (laF (bk h k (σ 8) (σ 9) (σ 10))) (σ 33) b) = (waO (cpyF (laF (bk h k (σ 8) (σ 9) (σ 10))) (σ 33) k) k 0)))
      · exact lv_eq (lv_sub hl [1, 0] rfl) (lc_s (lc_i (by rfl : 0 = (nI 0)) rfl))
    · have lt_b := lp_in (n := k) rfl (by omega) (by omega) c10
      refine lv_aload_n hx hb dX11_rings_13 rfl (lv_at hl 0 rfl) ?_
      refine gf_X11_52 (v := .ref (ad 33)) hC hK hH 0 rfl rfl dX11_rings_14 ?_
      refine lv_iload_n hx hb dX11_rings_17 rfl (lv_at hl 1 rfl) ?_
      refine lv_aload_n hx hb dX11_rings_18 rfl (lv_at hl 0 rfl) ?_
      refine gf_X11_41 (v := .ref (ad 19)) hC hK hH 0 rfl rfl dX11_rings_19 ?_
      refine lv_aload_n hx hb dX11_rings_22 rfl (lv_at hl 0 rfl) ?_
      refine gf_X11_28 (v := .ref (ad 7)) hC hK hH 0 rfl rfl dX11_rings_23 ?_
      refine lv_iload_n hx hb dX11_rings_26 rfl (lv_at hl 1 rfl) ?_
      refine x_callV (ws' := WC G ad (ua σ 33 (cpyF (laF (bk h k (σ 8) (σ 9) (σ 10))) (σ 33) b))) (As := [.ref (ad 7), .int (nI b)]) (rest := [.int (nI b), .ref (ad 33)]) (st' := [.int (laF (bk h k (σ 8) (σ 9) (σ 10)) b), .int (nI b), .ref (ad 33)]) hC hK hZ hA hl.1 hH (k_X10_lookedAt l G (pk ad [19, 20, 21, 22, 23, 24, 25, 26, 27, 28, 29, 30, 7, 8, 9, 10]) (pk (ua σ 33 (cpyF (laF (bk h k (σ 8) (σ 9) (σ 10))) (σ 33) b)) [19, 20, 21, 22, 23, 24, 25, 26, 27, 28, 29, 30, 7, 8, 9, 10]) (nI b) h k b hb3 hb4 hh4 hk6 hkd rfl (by omega)) lk_X11_166 [19, 20, 21, 22, 23, 24, 25, 26, 27, 28, 29, 30, 7, 8, 9, 10] rfl rfl rfl 19 9 rfl rfl rfl ⟨Nat.le_of_ble_eq_true rfl, Nat.le_of_ble_eq_true rfl⟩ ⟨Nat.le_refl _, Nat.le_refl _⟩ (Nat.le_of_ble_eq_true rfl) rfl dX11_rings_27 (fun H locs hH => ?_)
      refine x_callS (ws' := WC G ad (ua σ 33 (putF (cpyF (laF (bk h k (σ 8) (σ 9) (σ 10))) (σ 33) b) 6 (nI b) (laF (bk h k (σ 8) (σ 9) (σ 10)) b)))) (As := [.ref (ad 33), .int (nI b), .int (laF (bk h k (σ 8) (σ 9) (σ 10)) b)]) (rest := []) (st' := []) hC hK hZ hA hl.1 hH (k_X11_put l G 6 (pk ad [33]) (pk (ua σ 33 (cpyF (laF (bk h k (σ 8) (σ 9) (σ 10))) (σ 33) b)) [33]) (nI b) (laF (bk h k (σ 8) (σ 9) (σ 10)) b) (by decide)) lk_X11_169 [33] rfl rfl rfl rfl ⟨Nat.le_of_ble_eq_true rfl, Nat.le_of_ble_eq_true rfl⟩ ⟨Nat.le_refl _, Nat.le_refl _⟩ (Nat.le_of_ble_eq_true rfl) rfl dX11_rings_30 (fun H locs hH => ?_)
      replace hH : Hx G A (WC G ad (ua σ 33 (upd (cpyF (laF (bk h k (σ 8) (σ 9) (σ 10))) (σ 33) b) b (laF (bk h k (σ 8) (σ 9) (σ 10)) b)))) sS.heap H locs := hH.eq (congrArg (fun z_ : Nat → Int32 => WC G ad (ua σ 33 z_)) (by exact putF_in rfl (by omega) (by decide) : (putF (cpyF (laF (bk h k (σ 8) (σ 9) (σ 10))) (σ 33) b) 6 (nI b) (laF (bk h k (σ 8) (σ 9) (σ 10)) b)) = (upd (cpyF (laF (bk h k (σ 8) (σ 9) (σ 10))) (σ 33) b) b (laF (bk h k (σ 8) (σ 9) (σ 10)) b))))
      refine lv_iinc (v := ((nI b) + 1)) (lv' := [(1, .int ((nI b) + 1)), (0, .ref (ad 0))]) hx hb dX11_rings_33 hl (k := 1) rfl rfl (by decide) rfl (fun ls hl => ?_)
      refine lv_goto (tgt := 2) hx hb dX11_rings_36 (by decide) ?_
      exact ih_b (b + 1) (show (b + 1) ≤ k from (by omega)) (show k - (b + 1) < k - b from (by omega)) _ _ _ (hH.eq (congrArg (fun z_ : Nat → Int32 => WC G ad (ua σ 33 z_)) (by exact cpyF_s _ _ _ : (upd (cpyF (laF (bk h k (σ 8) (σ 9) (σ 10))) (σ 33) b) b (laF (bk h k (σ 8) (σ 9) (σ 10)) b)) = (cpyF (laF (bk h k (σ 8) (σ 9) (σ 10))) (σ 33) (b + 1))))) (lv_eq (lv_sub hl [1, 0] rfl) (lc_s (lc_i (by exact nI_1 _ : ((nI b) + 1) = (nI (b + 1))) rfl)))
  · exact hH.eq (Eq.trans (show WC G ad σ = WC G ad (ua σ 33 (σ 33)) from rfl) (congrArg (fun z_ : Nat → Int32 => WC G ad (ua σ 33 z_)) (by exact (cpyF_0 _ _).symm : (σ 33) = (cpyF (laF (bk h k (σ 8) (σ 9) (σ 10))) (σ 33) 0))))
  · exact lv_eq (lv_sub hl [1, 0] rfl) (lc_s (lc_i (by rfl : 0 = (nI 0)) rfl))
set_option maxHeartbeats 4000000 in
set_option maxRecDepth 100000 in
theorem k_X11_mostGroups (l : Launch) (G : GP) (ad : Nat → Nat) (σ : Nat → Nat → Int32) (e : Int32) (h : Nat) (k : Nat) (ej : Nat) (hb3 : (σ 7 3) = nI h) (hb4 : (σ 7 4) = nI k) (hh4 : h ≤ 4) (hk6 : k ≤ 6) (hwo : WO (bk h k (σ 8) (σ 9) (σ 10)) (σ 23) (σ 24)) (hbh : BH (bk h k (σ 8) (σ 9) (σ 10))) (he : e = nI ej) (he2 : ej < 2 ^ h) : CT l G yX11_mostGroups cX11_mostGroups 6 (some .int) 4 [.ref (ad 0), .int e] (WC G ad σ) (some (.int ((mgG (bk h k (σ 8) (σ 9) (σ 10)) e (σ 32) 16) 15))) (WC G ad (ua σ 32 (mgG (bk h k (σ 8) (σ 9) (σ 10)) e (σ 32) 16))) := by
  refine x_meth "BetsOnBets" rfl (by decide +kernel) (by rfl) (Nat.le_of_ble_eq_true rfl) ?_
  intro pP eE sS mM args below meth cC A ls hC hr hkL hK hZ hA hH hl
  have hx := hC.1
  have hb := hC.2.1
  have hl : lv_has ls 6 [(0, .ref (ad 0)), (1, .int e)] := hl
  have pwh := pw4 hh4
  have pwk := pw6 hk6
  have ph1 := Nat.one_le_two_pow (n := h)
  refine lv_iconst (v := 1) hx hb dX11_mostGroups_0 (by decide) ?_
  refine lv_istore_n (lv' := [(2, .int 1), (0, .ref (ad 0)), (1, .int e)]) hx hb dX11_mostGroups_1 rfl hl (by decide) rfl (fun ls hl => ?_)
  refine x_loop (G := G) (A := A) (H0 := sS.heap) (nL := 6) (α := Nat) (fun q_ => 16 - q_) (fun q_ => 1 ≤ q_ ∧ q_ ≤ 16) (fun q_ => WC G ad (ua σ 32 (mgG (bk h k (σ 8) (σ 9) (σ 10)) e (σ 32) q_))) (fun q_ => [(0, .ref (ad 0)), (1, .int e), (2, .int (nI q_))]) ?_ 1 (show 1 ≤ 1 ∧ 1 ≤ 16 from ⟨by omega, by omega⟩) ?_ ?_
  · rintro s hi_s ih_s H locs ls hH hl
    replace hi_s : 1 ≤ s ∧ s ≤ 16 := hi_s
    replace hH : Hx G A (WC G ad (ua σ 32 (mgG (bk h k (σ 8) (σ 9) (σ 10)) e (σ 32) s))) sS.heap H locs := hH
    replace hl : lv_has ls 6 [(0, .ref (ad 0)), (1, .int e), (2, .int (nI s))] := hl
    have hi_s1 := hi_s.2
    refine lv_iload_n hx hb dX11_mostGroups_2 rfl (lv_at hl 2 rfl) ?_
    refine lv_bipush (v := 16) hx hb dX11_mostGroups_3 (by decide) ?_
    refine lv_icmp_ge (tgt := 97) hx hb dX11_mostGroups_5 (by decide) (fun c5 => ?_) (fun c5 => ?_)
    · have ge_s := lp_out (n := 16) rfl (by omega) (by omega) c5
      have eq_s : s = 16 := by omega
      subst eq_s
      refine lv_aload_n hx hb dX11_mostGroups_97 rfl (lv_at hl 0 rfl) ?_
      refine gf_X11_49 (v := .ref (ad 32)) hC hK hH 0 rfl rfl dX11_mostGroups_98 ?_
      refine lv_bipush (v := 15) hx hb dX11_mostGroups_101 (by decide) ?_
      refine x_callS (ws' := WC G ad (ua σ 32 (mgG (bk h k (σ 8) (σ 9) (σ 10)) e (σ 32) 16))) (As := [.ref (ad 32), .int 15]) (rest := []) (st' := [.int (atF (mgG (bk h k (σ 8) (σ 9) (σ 10)) e (σ 32) 16) 16 15)]) hC hK hZ hA hl.1 hH (k_X11_at l G 16 (pk ad [32]) (pk (ua σ 32 (mgG (bk h k (σ 8) (σ 9) (σ 10)) e (σ 32) 16)) [32]) 15 (by decide)) lk_X11_173 [32] rfl rfl rfl rfl ⟨Nat.le_of_ble_eq_true rfl, Nat.le_of_ble_eq_true rfl⟩ ⟨Nat.le_refl _, Nat.le_refl _⟩ (Nat.le_of_ble_eq_true rfl) rfl dX11_mostGroups_103 (fun H locs hH => ?_)
      refine x_topE (y := ((mgG (bk h k (σ 8) (σ 9) (σ 10)) e (σ 32) 16) 15)) (atF_in rfl (by decide) (by decide)) ?_
      exact x_iret hC hr hkL hH rfl rfl dX11_mostGroups_106
    · have lt_s := lp_in (n := 16) rfl (by omega) (by omega) c5
      refine lv_iconst (v := 0) hx hb dX11_mostGroups_8 (by decide) ?_
      refine lv_istore_n (lv' := [(3, .int 0), (0, .ref (ad 0)), (1, .int e), (2, .int (nI s))]) hx hb dX11_mostGroups_9 rfl hl (by decide) rfl (fun ls hl => ?_)
      refine lv_iconst (v := 0) hx hb dX11_mostGroups_10 (by decide) ?_
      refine lv_istore (lv' := [(4, .int 0), (3, .int 0), (0, .ref (ad 0)), (1, .int e), (2, .int (nI s))]) hx hb dX11_mostGroups_11 hl (by decide) rfl (fun ls hl => ?_)
      refine lv_iconst (v := 0) hx hb dX11_mostGroups_13 (by decide) ?_
      refine lv_istore (lv' := [(5, .int 0), (4, .int 0), (3, .int 0), (0, .ref (ad 0)), (1, .int e), (2, .int (nI s))]) hx hb dX11_mostGroups_14 hl (by decide) rfl (fun ls hl => ?_)
      refine x_loop (G := G) (A := A) (H0 := sS.heap) (nL := 6) (α := Nat) (fun q_ => 4 - q_) (fun q_ => q_ ≤ 4) (fun q_ => WC G ad (ua σ 32 (mgG (bk h k (σ 8) (σ 9) (σ 10)) e (σ 32) s))) (fun q_ => [(0, .ref (ad 0)), (1, .int e), (2, .int (nI s)), (3, .int (mgB (mgG (bk h k (σ 8) (σ 9) (σ 10)) e (σ 32) s) s q_)), (4, .int (sumS (bk h k (σ 8) (σ 9) (σ 10)) (nI s) e q_)), (5, .int (nI q_))]) ?_ 0 (show 0 ≤ 4 from (Nat.zero_le _)) ?_ ?_
      · rintro p hi_p ih_p H locs ls hH hl
        replace hi_p : p ≤ 4 := hi_p
        replace hH : Hx G A (WC G ad (ua σ 32 (mgG (bk h k (σ 8) (σ 9) (σ 10)) e (σ 32) s))) sS.heap H locs := hH
        replace hl : lv_has ls 6 [(0, .ref (ad 0)), (1, .int e), (2, .int (nI s)), (3, .int (mgB (mgG (bk h k (σ 8) (σ 9) (σ 10)) e (σ 32) s) s p)), (4, .int (sumS (bk h k (σ 8) (σ 9) (σ 10)) (nI s) e p)), (5, .int (nI p))] := hl
        refine lv_iload hx hb dX11_mostGroups_16 (lv_at hl 5 rfl) ?_
        refine lv_iconst (v := 4) hx hb dX11_mostGroups_18 (by decide) ?_
        refine lv_icmp_ge (tgt := 71) hx hb dX11_mostGroups_19 (by decide) (fun c19 => ?_) (fun c19 => ?_)
        · have ge_p := lp_out (n := 4) rfl (by omega) (by omega) c19
          have eq_p : p = 4 := by omega
          subst eq_p
          refine lv_aload_n hx hb dX11_mostGroups_71 rfl (lv_at hl 0 rfl) ?_
          refine gf_X11_49 (v := .ref (ad 32)) hC hK hH 0 rfl rfl dX11_mostGroups_72 ?_
          refine lv_iload_n hx hb dX11_mostGroups_75 rfl (lv_at hl 2 rfl) ?_
          refine x_meet1 (G := G) (A := A) (H0 := sS.heap) (nL := 6) (WC G ad (ua σ 32 (mgG (bk h k (σ 8) (σ 9) (σ 10)) e (σ 32) s))) [(0, .ref (ad 0)), (1, .int e), (2, .int (nI s)), (3, .int (mgB (mgG (bk h k (σ 8) (σ 9) (σ 10)) e (σ 32) s) s 4)), (4, .int (sumS (bk h k (σ 8) (σ 9) (σ 10)) (nI s) e 4)), (5, .int (nI 4))] 88 [.int (mgV (bk h k (σ 8) (σ 9) (σ 10)) e (mgG (bk h k (σ 8) (σ 9) (σ 10)) e (σ 32) s) s), .int (nI s), .ref (ad 32)] ?_ ?_
          · intro H locs ls hH hl
            refine x_callS (ws' := WC G ad (ua σ 32 (putF (mgG (bk h k (σ 8) (σ 9) (σ 10)) e (σ 32) s) 16 (nI s) (mgV (bk h k (σ 8) (σ 9) (σ 10)) e (mgG (bk h k (σ 8) (σ 9) (σ 10)) e (σ 32) s) s)))) (As := [.ref (ad 32), .int (nI s), .int (mgV (bk h k (σ 8) (σ 9) (σ 10)) e (mgG (bk h k (σ 8) (σ 9) (σ 10)) e (σ 32) s) s)]) (rest := []) (st' := []) hC hK hZ hA hl.1 hH (k_X11_put l G 16 (pk ad [32]) (pk (ua σ 32 (mgG (bk h k (σ 8) (σ 9) (σ 10)) e (σ 32) s)) [32]) (nI s) (mgV (bk h k (σ 8) (σ 9) (σ 10)) e (mgG (bk h k (σ 8) (σ 9) (σ 10)) e (σ 32) s) s) (by decide)) lk_X11_169 [32] rfl rfl rfl rfl ⟨Nat.le_of_ble_eq_true rfl, Nat.le_of_ble_eq_true rfl⟩ ⟨Nat.le_refl _, Nat.le_refl _⟩ (Nat.le_of_ble_eq_true rfl) rfl dX11_mostGroups_88 (fun H locs hH => ?_)
            replace hH : Hx G A (WC G ad (ua σ 32 (upd (mgG (bk h k (σ 8) (σ 9) (σ 10)) e (σ 32) s) s (mgV (bk h k (σ 8) (σ 9) (σ 10)) e (mgG (bk h k (σ 8) (σ 9) (σ 10)) e (σ 32) s) s)))) sS.heap H locs := hH.eq (congrArg (fun z_ : Nat → Int32 => WC G ad (ua σ 32 z_)) (by exact putF_in rfl (by omega) (by decide) : (putF (mgG (bk h k (σ 8) (σ 9) (σ 10)) e (σ 32) s) 16 (nI s) (mgV (bk h k (σ 8) (σ 9) (σ 10)) e (mgG (bk h k (σ 8) (σ 9) (σ 10)) e (σ 32) s) s)) = (upd (mgG (bk h k (σ 8) (σ 9) (σ 10)) e (σ 32) s) s (mgV (bk h k (σ 8) (σ 9) (σ 10)) e (mgG (bk h k (σ 8) (σ 9) (σ 10)) e (σ 32) s) s))))
            refine lv_iinc (v := ((nI s) + 1)) (lv' := [(2, .int ((nI s) + 1)), (0, .ref (ad 0)), (1, .int e), (3, .int (mgB (mgG (bk h k (σ 8) (σ 9) (σ 10)) e (σ 32) s) s 4)), (4, .int (sumS (bk h k (σ 8) (σ 9) (σ 10)) (nI s) e 4)), (5, .int (nI 4))]) hx hb dX11_mostGroups_91 hl (k := 2) rfl rfl (by decide) rfl (fun ls hl => ?_)
            refine lv_goto (tgt := 2) hx hb dX11_mostGroups_94 (by decide) ?_
            exact ih_s (s + 1) (show 1 ≤ (s + 1) ∧ (s + 1) ≤ 16 from ⟨by omega, by omega⟩) (show 16 - (s + 1) < 16 - s from (by omega)) _ _ _ (hH.eq (congrArg (fun z_ : Nat → Int32 => WC G ad (ua σ 32 z_)) (by exact mgG_s (by omega) : (upd (mgG (bk h k (σ 8) (σ 9) (σ 10)) e (σ 32) s) s (mgV (bk h k (σ 8) (σ 9) (σ 10)) e (mgG (bk h k (σ 8) (σ 9) (σ 10)) e (σ 32) s) s)) = (mgG (bk h k (σ 8) (σ 9) (σ 10)) e (σ 32) (s + 1))))) (lv_eq (lv_sub hl [1, 2, 0] rfl) (lc_s (lc_s (lc_i (by exact nI_1 _ : ((nI s) + 1) = (nI (s + 1))) rfl))))
          · intro kJ76
            refine lv_iload hx hb dX11_mostGroups_76 (lv_at hl 4 rfl) ?_
            refine lv_if_ne (tgt := 87) hx hb dX11_mostGroups_78 (by decide) (fun c78 => ?_) (fun c78 => ?_)
            · refine lv_iload_n hx hb dX11_mostGroups_87 rfl (lv_at hl 3 rfl) ?_
              refine x_topE (y := (mgV (bk h k (σ 8) (σ 9) (σ 10)) e (mgG (bk h k (σ 8) (σ 9) (σ 10)) e (σ 32) s) s)) (by (first | exact (if_pos c78).symm | exact (if_neg c78).symm)) ?_
              exact kJ76 _ _ _ (hH.eq rfl) (lv_eq (lv_sub hl [0, 1, 2, 3, 4, 5] rfl) (lc_s (lc_s (lc_s (lc_s (lc_s (lc_s rfl)))))))
            · refine lv_iload_n hx hb dX11_mostGroups_81 rfl (lv_at hl 3 rfl) ?_
              refine lv_iconst (v := 1) hx hb dX11_mostGroups_82 (by decide) ?_
              refine lv_iadd hx hb dX11_mostGroups_83 ?_
              refine lv_goto (tgt := 88) hx hb dX11_mostGroups_84 (by decide) ?_
              refine x_topE (y := (mgV (bk h k (σ 8) (σ 9) (σ 10)) e (mgG (bk h k (σ 8) (σ 9) (σ 10)) e (σ 32) s) s)) (by (first | exact (if_pos c78).symm | exact (if_neg c78).symm)) ?_
              exact kJ76 _ _ _ (hH.eq rfl) (lv_eq (lv_sub hl [0, 1, 2, 3, 4, 5] rfl) (lc_s (lc_s (lc_s (lc_s (lc_s (lc_s rfl)))))))
        · have lt_p := lp_in (n := 4) rfl (by omega) (by omega) c19
          refine lv_iload_n hx hb dX11_mostGroups_22 rfl (lv_at hl 2 rfl) ?_
          refine lv_iload hx hb dX11_mostGroups_23 (lv_at hl 5 rfl) ?_
          refine x_callS (ws' := WC G ad (ua σ 32 (mgG (bk h k (σ 8) (σ 9) (σ 10)) e (σ 32) s))) (As := [.int (nI s), .int (nI p)]) (rest := []) (st' := [.int (bI (tb (nI s) (nI p)))]) hC hK hZ hA hl.1 hH (k_X11_has l G (pk ad []) (pk (ua σ 32 (mgG (bk h k (σ 8) (σ 9) (σ 10)) e (σ 32) s)) []) (nI s) (nI p)) lk_X11_177 [] rfl rfl rfl rfl ⟨Nat.le_of_ble_eq_true rfl, Nat.le_of_ble_eq_true rfl⟩ ⟨Nat.le_refl _, Nat.le_refl _⟩ (Nat.le_of_ble_eq_true rfl) rfl dX11_mostGroups_25 (fun H locs hH => ?_)
          refine x_beq (tgt := 65) hC dX11_mostGroups_28 (by decide) (fun c28 => ?_) (fun c28 => ?_)
          · refine lv_iinc (v := ((nI p) + 1)) (lv' := [(5, .int ((nI p) + 1)), (0, .ref (ad 0)), (1, .int e), (2, .int (nI s)), (3, .int (mgB (mgG (bk h k (σ 8) (σ 9) (σ 10)) e (σ 32) s) s p)), (4, .int (sumS (bk h k (σ 8) (σ 9) (σ 10)) (nI s) e p))]) hx hb dX11_mostGroups_65 hl (k := 5) rfl rfl (by decide) rfl (fun ls hl => ?_)
            refine lv_goto (tgt := 16) hx hb dX11_mostGroups_68 (by decide) ?_
            exact ih_p (p + 1) (show (p + 1) ≤ 4 from (by omega)) (show 4 - (p + 1) < 4 - p from (by omega)) _ _ _ (hH.eq rfl) (lv_eq (lv_sub hl [1, 2, 3, 4, 5, 0] rfl) (lc_s (lc_s (lc_s (lc_i (by first | exact mgB_t c28 | exact mgB_f c28 : (mgB (mgG (bk h k (σ 8) (σ 9) (σ 10)) e (σ 32) s) s p) = (mgB (mgG (bk h k (σ 8) (σ 9) (σ 10)) e (σ 32) s) s (p + 1))) (lc_i (by first | (rw [sumS_t c28]; done) | (rw [sumS_f c28, Int32.add_zero]; done) : (sumS (bk h k (σ 8) (σ 9) (σ 10)) (nI s) e p) = (sumS (bk h k (σ 8) (σ 9) (σ 10)) (nI s) e (p + 1))) (lc_i (by exact nI_1 _ : ((nI p) + 1) = (nI (p + 1))) rfl)))))))
          · refine lv_iload hx hb dX11_mostGroups_31 (lv_at hl 4 rfl) ?_
            refine lv_aload_n hx hb dX11_mostGroups_33 rfl (lv_at hl 0 rfl) ?_
            refine lv_aload_n hx hb dX11_mostGroups_34 rfl (lv_at hl 0 rfl) ?_
            refine gf_X11_28 (v := .ref (ad 7)) hC hK hH 0 rfl rfl dX11_mostGroups_35 ?_
            refine lv_iload hx hb dX11_mostGroups_38 (lv_at hl 5 rfl) ?_
            refine lv_iload_n hx hb dX11_mostGroups_40 rfl (lv_at hl 1 rfl) ?_
            refine x_callVA (ws' := WC G ad (ua σ 32 (mgG (bk h k (σ 8) (σ 9) (σ 10)) e (σ 32) s))) (As := [.ref (ad 7), .int (nI p), .int e]) (rest := [.int (sumS (bk h k (σ 8) (σ 9) (σ 10)) (nI s) e p)]) (st' := [.int (purA (bk h k (σ 8) (σ 9) (σ 10)) (nI p) e), .int (sumS (bk h k (σ 8) (σ 9) (σ 10)) (nI s) e p)]) hC hK hZ hA hl.1 hH (k_X11_purseOf_t l G ad (ua σ 32 (mgG (bk h k (σ 8) (σ 9) (σ 10)) e (σ 32) s)) (nI p) e h k ej hb3 hb4 hh4 hk6 hwo hbh he he2) lk_X11_124 rfl 0 10 rfl rfl rfl ⟨Nat.le_of_ble_eq_true rfl, Nat.le_of_ble_eq_true rfl⟩ ⟨Nat.le_refl _, Nat.le_refl _⟩ (Nat.le_of_ble_eq_true rfl) rfl dX11_mostGroups_41 (fun H locs hH => ?_)
            refine lv_iadd hx hb dX11_mostGroups_44 ?_
            refine lv_istore (lv' := [(4, .int ((sumS (bk h k (σ 8) (σ 9) (σ 10)) (nI s) e p) + (purA (bk h k (σ 8) (σ 9) (σ 10)) (nI p) e))), (0, .ref (ad 0)), (1, .int e), (2, .int (nI s)), (3, .int (mgB (mgG (bk h k (σ 8) (σ 9) (σ 10)) e (σ 32) s) s p)), (5, .int (nI p))]) hx hb dX11_mostGroups_45 hl (by decide) rfl (fun ls hl => ?_)
            refine lv_iload_n hx hb dX11_mostGroups_47 rfl (lv_at hl 4 rfl) ?_
            refine lv_aload_n hx hb dX11_mostGroups_48 rfl (lv_at hl 1 rfl) ?_
            refine gf_X11_49 (v := .ref (ad 32)) hC hK hH 0 rfl rfl dX11_mostGroups_49 ?_
            refine lv_iload_n hx hb dX11_mostGroups_52 rfl (lv_at hl 3 rfl) ?_
            refine lv_iconst (v := 1) hx hb dX11_mostGroups_53 (by decide) ?_
            refine lv_iload hx hb dX11_mostGroups_54 (lv_at hl 5 rfl) ?_
            refine lv_ishl hx hb dX11_mostGroups_56 ?_
            refine lv_isub hx hb dX11_mostGroups_57 ?_
            refine x_callS (ws' := WC G ad (ua σ 32 (mgG (bk h k (σ 8) (σ 9) (σ 10)) e (σ 32) s))) (As := [.ref (ad 32), .int ((nI s) - ((1 : Int32) <<< ((nI p) &&& 31)))]) (rest := [.int (mgB (mgG (bk h k (σ 8) (σ 9) (σ 10)) e (σ 32) s) s p)]) (st' := [.int (atF (mgG (bk h k (σ 8) (σ 9) (σ 10)) e (σ 32) s) 16 ((nI s) - ((1 : Int32) <<< ((nI p) &&& 31)))), .int (mgB (mgG (bk h k (σ 8) (σ 9) (σ 10)) e (σ 32) s) s p)]) hC hK hZ hA hl.1 hH (k_X11_at l G 16 (pk ad [32]) (pk (ua σ 32 (mgG (bk h k (σ 8) (σ 9) (σ 10)) e (σ 32) s)) [32]) ((nI s) - ((1 : Int32) <<< ((nI p) &&& 31))) (by decide)) lk_X11_173 [32] rfl rfl rfl rfl ⟨Nat.le_of_ble_eq_true rfl, Nat.le_of_ble_eq_true rfl⟩ ⟨Nat.le_refl _, Nat.le_refl _⟩ (Nat.le_of_ble_eq_true rfl) rfl dX11_mostGroups_58 (fun H locs hH => ?_)
            refine x_topE (y := ((mgG (bk h k (σ 8) (σ 9) (σ 10)) e (σ 32) s) (s - 2 ^ p))) (atF_in (mgx (by omega) lt_p c28) (Nat.lt_of_le_of_lt (Nat.sub_le _ _) (by omega)) (by decide)) ?_
            refine x_max (a := (mgB (mgG (bk h k (σ 8) (σ 9) (σ 10)) e (σ 32) s) s p)) (b := ((mgG (bk h k (σ 8) (σ 9) (σ 10)) e (σ 32) s) (s - 2 ^ p))) (rest := []) hC hl.1 wd_678 ⟨Nat.le_of_ble_eq_true rfl, Nat.le_of_ble_eq_true rfl⟩ ⟨Nat.le_refl _, Nat.le_refl _⟩ (Nat.le_of_ble_eq_true rfl) dX11_mostGroups_61 ?_
            refine lv_istore_n (lv' := [(3, .int (mx32 (mgB (mgG (bk h k (σ 8) (σ 9) (σ 10)) e (σ 32) s) s p) ((mgG (bk h k (σ 8) (σ 9) (σ 10)) e (σ 32) s) (s - 2 ^ p)))), (4, .int ((sumS (bk h k (σ 8) (σ 9) (σ 10)) (nI s) e p) + (purA (bk h k (σ 8) (σ 9) (σ 10)) (nI p) e))), (0, .ref (ad 0)), (1, .int e), (2, .int (nI s)), (5, .int (nI p))]) hx hb dX11_mostGroups_64 rfl hl (by decide) rfl (fun ls hl => ?_)
            refine lv_iinc (v := ((nI p) + 1)) (lv' := [(5, .int ((nI p) + 1)), (3, .int (mx32 (mgB (mgG (bk h k (σ 8) (σ 9) (σ 10)) e (σ 32) s) s p) ((mgG (bk h k (σ 8) (σ 9) (σ 10)) e (σ 32) s) (s - 2 ^ p)))), (4, .int ((sumS (bk h k (σ 8) (σ 9) (σ 10)) (nI s) e p) + (purA (bk h k (σ 8) (σ 9) (σ 10)) (nI p) e))), (0, .ref (ad 0)), (1, .int e), (2, .int (nI s))]) hx hb dX11_mostGroups_65 hl (k := 5) rfl rfl (by decide) rfl (fun ls hl => ?_)
            refine lv_goto (tgt := 16) hx hb dX11_mostGroups_68 (by decide) ?_
            exact ih_p (p + 1) (show (p + 1) ≤ 4 from (by omega)) (show 4 - (p + 1) < 4 - p from (by omega)) _ _ _ (hH.eq rfl) (lv_eq (lv_sub hl [3, 4, 5, 1, 2, 0] rfl) (lc_s (lc_s (lc_s (lc_i (by first | exact mgB_t c28 | exact mgB_f c28 : mx32 (mgB (mgG (bk h k (σ 8) (σ 9) (σ 10)) e (σ 32) s) s p) ((mgG (bk h k (σ 8) (σ 9) (σ 10)) e (σ 32) s) (s - 2 ^ p)) = (mgB (mgG (bk h k (σ 8) (σ 9) (σ 10)) e (σ 32) s) s (p + 1))) (lc_i (by first | (rw [sumS_t c28]; done) | (rw [sumS_f c28, Int32.add_zero]; done) : ((sumS (bk h k (σ 8) (σ 9) (σ 10)) (nI s) e p) + (purA (bk h k (σ 8) (σ 9) (σ 10)) (nI p) e)) = (sumS (bk h k (σ 8) (σ 9) (σ 10)) (nI s) e (p + 1))) (lc_i (by exact nI_1 _ : ((nI p) + 1) = (nI (p + 1))) rfl)))))))
      · exact hH.eq rfl
      · exact lv_eq (lv_sub hl [3, 4, 5, 2, 1, 0] rfl) (lc_s (lc_s (lc_s (lc_i (by rfl : 0 = (mgB (mgG (bk h k (σ 8) (σ 9) (σ 10)) e (σ 32) s) s 0)) (lc_i (by rfl : 0 = (sumS (bk h k (σ 8) (σ 9) (σ 10)) (nI s) e 0)) (lc_i (by rfl : 0 = (nI 0)) rfl))))))
  · exact hH.eq (Eq.trans (show WC G ad σ = WC G ad (ua σ 32 (σ 32)) from rfl) (congrArg (fun z_ : Nat → Int32 => WC G ad (ua σ 32 z_)) (by exact (mgG_1 _ _ _).symm : (σ 32) = (mgG (bk h k (σ 8) (σ 9) (σ 10)) e (σ 32) 1))))
  · exact lv_eq (lv_sub hl [1, 2, 0] rfl) (lc_s (lc_s (lc_i (by rfl : 1 = (nI 1)) rfl)))
set_option maxHeartbeats 4000000 in
set_option maxRecDepth 100000 in
theorem k_X11_settling (l : Launch) (G : GP) (ad : Nat → Nat) (σ : Nat → Nat → Int32) (e : Int32) (h : Nat) (k : Nat) (hb3 : (σ 7 3) = nI h) (hb4 : (σ 7 4) = nI k) (hh4 : h ≤ 4) (hk6 : k ≤ 6) (hwo : WO (bk h k (σ 8) (σ 9) (σ 10)) (σ 23) (σ 24)) (hbh : BH (bk h k (σ 8) (σ 9) (σ 10))) : CT l G yX11_settling cX11_settling 2 (some .int) 5 [.ref (ad 0), .int e] (WC G ad σ) (some (.int (rfA (hbC e (2 ^ h)) (4 - (mgG (bk h k (σ 8) (σ 9) (σ 10)) e (σ 32) 16) 15)))) (WC G ad (ua (ua σ 31 (rfz (σ 31) (hbC e (2 ^ h)))) 32 (ifz (hbC e (2 ^ h)) (mgG (bk h k (σ 8) (σ 9) (σ 10)) e (σ 32) 16) (σ 32)))) := by
  refine x_meth "BetsOnBets" rfl (by decide +kernel) (by rfl) (Nat.le_of_ble_eq_true rfl) ?_
  intro pP eE sS mM args below meth cC A ls hC hr hkL hK hZ hA hH hl
  have hx := hC.1
  have hb := hC.2.1
  have hl : lv_has ls 2 [(0, .ref (ad 0)), (1, .int e)] := hl
  have pwh := pw4 hh4
  have pwk := pw6 hk6
  have ph1 := Nat.one_le_two_pow (n := h)
  refine lv_aload_n hx hb dX11_settling_0 rfl (lv_at hl 0 rfl) ?_
  refine gf_X11_28 (v := .ref (ad 7)) hC hK hH 0 rfl rfl dX11_settling_1 ?_
  refine lv_iload_n hx hb dX11_settling_4 rfl (lv_at hl 1 rfl) ?_
  refine x_callV (ws' := WC G ad σ) (As := [.int e]) (rest := []) (st' := [.int (bI (inb e (2 ^ h)))]) hC hK hZ hA hl.1 hH (k_X2_hasEnd l G (pk ad [7, 8, 9, 10]) (pk σ [7, 8, 9, 10]) e h k hb3 hb4 hh4 hk6) lk_X11_109 [7, 8, 9, 10] rfl rfl rfl 7 1 rfl rfl rfl ⟨Nat.le_of_ble_eq_true rfl, Nat.le_of_ble_eq_true rfl⟩ ⟨Nat.le_refl _, Nat.le_refl _⟩ (Nat.le_of_ble_eq_true rfl) rfl dX11_settling_5 (fun H locs hH => ?_)
  refine x_beq (tgt := 21) hC dX11_settling_8 (by decide) (fun c8 => ?_) (fun c8 => ?_)
  · refine lv_aload_n hx hb dX11_settling_21 rfl (lv_at hl 0 rfl) ?_
    refine lv_iconst (v := (-1)) hx hb dX11_settling_22 (by decide) ?_
    refine x_callVA (ws' := WC G ad (ua σ 31 (upd (σ 31) 1 ((σ 31) 1 + 1)))) (As := [.int (-1)]) (rest := []) (st' := [.int (-1)]) hC hK hZ hA hl.1 hH (k_X11_refused l G ad σ (-1) 1 rfl (by decide)) lk_X11_80 rfl 0 10 rfl rfl rfl ⟨Nat.le_of_ble_eq_true rfl, Nat.le_of_ble_eq_true rfl⟩ ⟨Nat.le_refl _, Nat.le_refl _⟩ (Nat.le_of_ble_eq_true rfl) rfl dX11_settling_23 (fun H locs hH => ?_)
    exact x_iret hC hr hkL hH (by exact rfAk (cI_f c8) (by decide)) (((congrArg (fun z_ : Nat → Int32 => WC G ad (ua (ua σ 31 z_) 32 (ifz (hbC e (2 ^ h)) (mgG (bk h k (σ 8) (σ 9) (σ 10)) e (σ 32) 16) (σ 32)))) (by exact rfzk (cI_f c8) (by decide) : (rfz (σ 31) (hbC e (2 ^ h))) = (upd (σ 31) 1 ((σ 31) 1 + 1)))).trans (congrArg (fun z_ : Nat → Int32 => WC G ad (ua (ua σ 31 (upd (σ 31) 1 ((σ 31) 1 + 1))) 32 z_)) (by exact ifzk (cI_f c8) (by decide) : (ifz (hbC e (2 ^ h)) (mgG (bk h k (σ 8) (σ 9) (σ 10)) e (σ 32) 16) (σ 32)) = (σ 32)))).trans (show WC G ad (ua (ua σ 31 (upd (σ 31) 1 ((σ 31) 1 + 1))) 32 (σ 32)) = WC G ad (ua σ 31 (upd (σ 31) 1 ((σ 31) 1 + 1))) from rfl)) dX11_settling_26
  · obtain ⟨ej_, hej_, ee_⟩ := inb_of (by omega) c8
    refine lv_iconst (v := 4) hx hb dX11_settling_11 (by decide) ?_
    refine lv_aload_n hx hb dX11_settling_12 rfl (lv_at hl 0 rfl) ?_
    refine lv_iload_n hx hb dX11_settling_13 rfl (lv_at hl 1 rfl) ?_
    refine x_callVA (ws' := WC G ad (ua σ 32 (mgG (bk h k (σ 8) (σ 9) (σ 10)) e (σ 32) 16))) (As := [.int e]) (rest := [.int 4]) (st' := [.int ((mgG (bk h k (σ 8) (σ 9) (σ 10)) e (σ 32) 16) 15), .int 4]) hC hK hZ hA hl.1 hH (k_X11_mostGroups l G ad σ e h k ej_ hb3 hb4 hh4 hk6 hwo hbh ee_ hej_) lk_X11_163 rfl 0 10 rfl rfl rfl ⟨Nat.le_of_ble_eq_true rfl, Nat.le_of_ble_eq_true rfl⟩ ⟨Nat.le_refl _, Nat.le_refl _⟩ (Nat.le_of_ble_eq_true rfl) rfl dX11_settling_14 (fun H locs hH => ?_)
    refine lv_isub hx hb dX11_settling_17 ?_
    refine lv_goto (tgt := 26) hx hb dX11_settling_18 (by decide) ?_
    exact x_iret hC hr hkL hH (by (refine (rfA0 (cI_t c8)).trans ?_); rfl) (((congrArg (fun z_ : Nat → Int32 => WC G ad (ua (ua σ 31 z_) 32 (ifz (hbC e (2 ^ h)) (mgG (bk h k (σ 8) (σ 9) (σ 10)) e (σ 32) 16) (σ 32)))) (by exact rfz0 (cI_t c8) : (rfz (σ 31) (hbC e (2 ^ h))) = (σ 31))).trans (congrArg (fun z_ : Nat → Int32 => WC G ad (ua (ua σ 31 (σ 31)) 32 z_)) (by first | ((refine (ifz0 (cI_t c8)).trans ?_); rfl) | rw [ifz0 (cI_t c8)] : (ifz (hbC e (2 ^ h)) (mgG (bk h k (σ 8) (σ 9) (σ 10)) e (σ 32) 16) (σ 32)) = (mgG (bk h k (σ 8) (σ 9) (σ 10)) e (σ 32) 16)))).trans (show WC G ad (ua (ua σ 31 (σ 31)) 32 (mgG (bk h k (σ 8) (σ 9) (σ 10)) e (σ 32) 16)) = WC G ad (ua σ 32 (mgG (bk h k (σ 8) (σ 9) (σ 10)) e (σ 32) 16)) from rfl)) dX11_settling_26
