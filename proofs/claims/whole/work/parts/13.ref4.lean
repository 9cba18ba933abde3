/-! the reference: trials, settling, rings, the row, races, image, counts -/
theorem nI_or (a b : Nat) : nI a ||| nI b = nI (a ||| b) := by
  apply Int32.toBitVec_inj.1
  show BitVec.ofNat 32 a ||| BitVec.ofNat 32 b = BitVec.ofNat 32 (a ||| b)
  apply BitVec.eq_of_getLsbD_eq
  intro i hi
  simp [hi]
theorem nI_and (a b : Nat) : nI a &&& nI b = nI (a &&& b) := by
  apply Int32.toBitVec_inj.1
  show BitVec.ofNat 32 a &&& BitVec.ofNat 32 b = BitVec.ofNat 32 (a &&& b)
  apply BitVec.eq_of_getLsbD_eq
  intro i hi
  simp [hi]
theorem sh16 : ∀ k, k < 16 → (1 : Int32) <<< (nI k &&& 31) = nI (2 ^ k) := by decide
theorem or_top {a k : Nat} (h : a < 2 ^ k) (hk : k < 16) : nI a ||| (1 : Int32) <<< (nI k &&& 31) = nI (a + 2 ^ k) := by
  rw [sh16 k hk, nI_or]
  have e := Nat.two_pow_add_eq_or_of_lt h 1
  rw [Nat.mul_one, Nat.or_comm] at e
  rw [← e, Nat.add_comm]
noncomputable def sumS (β : Bk) (s e : Int32) : Nat → Int32
  | 0 => 0
  | i + 1 => sumS β s e i + cI (tb s (nI i)) (purA β (nI i) e) 0
theorem sumS_t {β : Bk} {s e : Int32} {p : Nat} (h : tb s (nI p)) : sumS β s e (p + 1) = sumS β s e p + purA β (nI p) e := by rw [sumS, cI_t h]
theorem sumS_f {β : Bk} {s e : Int32} {p : Nat} (h : ¬ tb s (nI p)) : sumS β s e (p + 1) = sumS β s e p + 0 := by rw [sumS, cI_f h]
theorem z_of {n : Nat} (hn : n < 2 ^ 31) (h : nI n = 0) : n = 0 := (nI_eq (b := 0) hn (by omega)).mp h
noncomputable def sumA (β : Bk) (s e : Int32) : Int32 := sumS β s e 4
def lst (q : Nat) : Nat := q &&& (16 - q)
noncomputable def lpG (Z : Nat → Prop) (g : Nat → Int32) (q : Nat) : Nat → Nat → Int32 → Int32
  | 0, _, m => m
  | f + 1, a, m => if a = 0 then m else lpG Z g q f ((a - 1) &&& q) (cI (a &&& lst q = 0 ∨ a = q ∨ ¬ Z a) m (if m < 1 + g (q &&& (15 ^^^ a)) then 1 + g (q &&& (15 ^^^ a)) else m))
theorem lpG_0 (Z : Nat → Prop) (g : Nat → Int32) (q : Nat) (f : Nat) (m : Int32) : lpG Z g q f 0 m = m := by
  cases f with
  | zero => rfl
  | succ f => exact if_pos rfl
theorem lpG_s {Z : Nat → Prop} {g : Nat → Int32} {q f a : Nat} {m : Int32} (h : ¬ a = 0) : lpG Z g q (f + 1) a m = lpG Z g q f ((a - 1) &&& q) (cI (a &&& lst q = 0 ∨ a = q ∨ ¬ Z a) m (if m < 1 + g (q &&& (15 ^^^ a)) then 1 + g (q &&& (15 ^^^ a)) else m)) := if_neg h
noncomputable def grp (Z : Nat → Prop) : Nat → Nat → Int32
  | 0, _ => 0
  | D + 1, q => if q = 0 then 0 else lpG Z (grp Z D) q 16 q 1
theorem g_lst : ∀ q, q < 16 → nI q &&& -nI q = nI (lst q) := by decide
theorem g_lst16 : ∀ q, q < 16 → lst q < 16 := by decide
theorem g_sub : ∀ q, q < 16 → ∀ a, a < 16 → nI q &&& (nI a ^^^ (-1)) = nI (q &&& (15 ^^^ a)) := by decide +kernel
theorem g_sub16 : ∀ q, q < 16 → ∀ a, a < 16 → q &&& (15 ^^^ a) < 16 := by decide +kernel
theorem g_pc : ∀ q, q < 16 → ∀ a, a < 16 → a &&& q = a → ¬ a &&& lst q = 0 → popc 4 (q &&& (15 ^^^ a)) < popc 4 q := by decide +kernel
theorem g_nx : ∀ q, q < 16 → ∀ a, a < 16 → ((a - 1) &&& q) < 16 ∧ ((a - 1) &&& q) &&& q = (a - 1) &&& q ∧ (a - 1) &&& q ≤ a - 1 := by decide +kernel
theorem g_pred {a : Nat} (h : ¬ a = 0) : nI a - 1 = nI (a - 1) := by
  obtain ⟨k, rfl⟩ : ∃ k, a = k + 1 := ⟨a - 1, by omega⟩
  exact nI_pred k
theorem i_or0 (x : Int32) : x ||| 0 = x := Int32.or_zero
theorem popc4_le : ∀ q, q < 2 ^ 4 → popc 4 q < 5 := by decide
theorem popc4_0 : ∀ q, q < 16 → popc 4 q < 1 → q = 0 := by decide
noncomputable def seN (β : Bk) (e : Int32) : Nat → Nat
  | 0 => 0
  | p + 1 => if purA β (nI p) e = 0 then seN β e p else seN β e p + 2 ^ p
theorem seN_lt (β : Bk) (e : Int32) : ∀ p, seN β e p < 2 ^ p := by
  intro p
  induction p with
  | zero => exact Nat.one_pos
  | succ p ih => rw [seN, Nat.pow_succ]; split <;> omega
noncomputable def zG (β : Bk) (e : Int32) : Nat → Prop := fun a => sumA β (nI a) e = 0
noncomputable def setlA (β : Bk) (e : Int32) : Int32 := nI (popc 16 (seN β e 4)) - grp (zG β e) 5 (seN β e 4)
noncomputable def cpS (β : Bk) (e : Int32) : Nat → Int32
  | 0 => 0
  | p + 1 => cpS β e p ||| (if bF β p < -purA β (nI p) e then (1 : Int32) <<< (nI p &&& 31) else 0)
noncomputable def mk1 (β : Bk) (b w : Nat) (s : Int32) : Int32 := cI (10 ≤ nm β b w ∧ inb (nm β b w - 10) (bK β)) (s ||| (1 : Int32) <<< ((nm β b w - 10) &&& 31)) s
noncomputable def mkA (β : Bk) (b : Nat) : Int32 := if 2 ≤ nm β b 0 then mk1 β b 2 (mk1 β b 1 0) else mk1 β b 1 0
noncomputable def rgI (β : Bk) (s : Int32) : Nat → Int32
  | 0 => s
  | o + 1 => cI (tb (rgI β s o) (nI o)) (rgI β s o ||| mkA β o) (rgI β s o)
theorem rgI_t {β : Bk} {s : Int32} {o : Nat} (h : tb (rgI β s o) (nI o)) : rgI β s (o + 1) = rgI β s o ||| mkA β o := by rw [rgI, cI_t h]
theorem rgI_f {β : Bk} {s : Int32} {o : Nat} (h : ¬ tb (rgI β s o) (nI o)) : rgI β s (o + 1) = rgI β s o := by rw [rgI, cI_f h]
noncomputable def rgO (β : Bk) (s : Int32) : Nat → Int32
  | 0 => s
  | r + 1 => rgI β (rgO β s r) (bK β)
noncomputable def rgA (β : Bk) : Nat → Int32
  | 0 => 0
  | b + 1 => rgA β b ||| (rgO β (mkA β b) 6 &&& (1 : Int32) <<< (nI b &&& 31))
noncomputable def wrS (β : Bk) (ρ : Nat → Int32) (e : Int32) (n : Nat) : Nat → Int32
  | 0 => -9
  | m + 1 => if ρ (n - (m + 1)) = purA β (nI (n - (m + 1))) e + 500 then wrS β ρ e n m else nI (n - (m + 1))
noncomputable def wrA (β : Bk) (ρ : Nat → Int32) (n : Nat) (e : Int32) : Int32 := wrS β ρ e n n
theorem wrS_t {β : Bk} {ρ : Nat → Int32} {e : Int32} {n p : Nat} (hp : p < n) (h : ρ p = purA β (nI p) e + 500) : wrS β ρ e n (n - p) = wrS β ρ e n (n - (p + 1)) := by
  obtain ⟨m, hm⟩ : ∃ m, n - p = m + 1 := ⟨n - p - 1, by omega⟩
  rw [hm, wrS, show n - (m + 1) = p by omega, if_pos h, show n - (p + 1) = m by omega]
theorem wrS_f {β : Bk} {ρ : Nat → Int32} {e : Int32} {n p : Nat} (hp : p < n) (h : ¬ ρ p = purA β (nI p) e + 500) : wrS β ρ e n (n - p) = nI p := by
  obtain ⟨m, hm⟩ : ∃ m, n - p = m + 1 := ⟨n - p - 1, by omega⟩
  rw [hm, wrS, show n - (m + 1) = p by omega, if_neg h]
noncomputable def fiN (β : Bk) (ρ : Nat → Int32) (n : Nat) : Nat → Nat
  | 0 => 0
  | e + 1 => if 0 ≤ wrA β ρ n (nI e) then fiN β ρ n e else fiN β ρ n e + 2 ^ e
theorem fiN_lt (β : Bk) (ρ : Nat → Int32) (n : Nat) : ∀ e, fiN β ρ n e < 2 ^ e := by
  intro e
  induction e with
  | zero => exact Nat.one_pos
  | succ e ih => rw [fiN, Nat.pow_succ]; split <;> omega
noncomputable def fitA (β : Bk) (ρ : Nat → Int32) (n : Nat) (w : Int32) : Int32 := if w = 0 then nI (fiN β ρ n (2 ^ bH β)) else nI (popc 16 (fiN β ρ n (2 ^ bH β)))
noncomputable def fitC (w : Int32) : Nat := cI (inb w 2) 0 2
noncomputable def sdC (p n : Int32) : Nat := cI (inb p 4) (wiC n 1 30) 1
def drw (s : Int32) : Int32 := (s &&& 2147483647) / 256 - (s &&& 2147483647) / 256 / 100 * 100
def sdI (β : Bk) (s : Int32) : Nat → Int32 × Int32
  | 0 => (s, 0)
  | h + 1 => ((sdI β s h).1 * 1664525 + 1013904223, (sdI β s h).2 ||| (if drw ((sdI β s h).1 * 1664525 + 1013904223) < bC β h then (1 : Int32) <<< (nI h &&& 31) else 0))
theorem sdI_t {β : Bk} {s : Int32} {h : Nat} (c : ¬ bC β h ≤ drw ((sdI β s h).1 * 1664525 + 1013904223)) : (sdI β s h).2 ||| (1 : Int32) <<< (nI h &&& 31) = (sdI β s (h + 1)).2 := by
  rw [sdI]
  simp only []
  rw [if_pos (Int32.not_le.mp c)]
theorem sdI_f {β : Bk} {s : Int32} {h : Nat} (c : bC β h ≤ drw ((sdI β s h).1 * 1664525 + 1013904223)) : (sdI β s h).2 ||| 0 = (sdI β s (h + 1)).2 := by
  rw [sdI]
  simp only []
  rw [if_neg (Int32.not_lt.mpr c)]
noncomputable def sdO (β : Bk) (p s : Int32) : Nat → Int32 × Int32
  | 0 => (s, 0)
  | i + 1 => ((sdI β (sdO β p s i).1 (bH β)).1, (sdO β p s i).2 + purA β p (sdI β (sdO β p s i).1 (bH β)).2)
noncomputable def sdA (β : Bk) (p n z : Int32) : Int32 := (sdO β p z n.toNatClampNeg).2
def onC (f : Int32) : Nat := if f = 0 then 3 else 0
def stS (β : Bk) : Nat → Int32
  | 0 => 0
  | b + 1 => stS β b + nm β b 3
def cntA (β : Bk) (ρ : Nat → Int32) (rw tp w : Int32) : Int32 := if 10 < w ∧ w < 17 then ρ (w - 10).toNatClampNeg else if w = 0 then nI (bH β) else if w = 1 then nI (bK β) else if w = 2 then nI (2 ^ bH β) else if w = 3 then stS β (bK β) else if w = 4 then rw else if w = 5 then tp else -9
theorem sw6 (x : Int32) : x = 0 ∨ x = 1 ∨ x = 2 ∨ x = 3 ∨ x = 4 ∨ x = 5 ∨ (x.toInt < 0 ∨ 5 < x.toInt) := by
  have e : ∀ n : Int, x.toInt = n → x = Int32.ofInt n := fun n h => by rw [← h]; exact (Int32.ofInt_toInt x).symm
  by_cases h0 : x.toInt = 0
  · exact Or.inl (e 0 h0)
  by_cases h1 : x.toInt = 1
  · exact Or.inr (Or.inl (e 1 h1))
  by_cases h2 : x.toInt = 2
  · exact Or.inr (Or.inr (Or.inl (e 2 h2)))
  by_cases h3 : x.toInt = 3
  · exact Or.inr (Or.inr (Or.inr (Or.inl (e 3 h3))))
  by_cases h4 : x.toInt = 4
  · exact Or.inr (Or.inr (Or.inr (Or.inr (Or.inl (e 4 h4)))))
  by_cases h5 : x.toInt = 5
  · exact Or.inr (Or.inr (Or.inr (Or.inr (Or.inr (Or.inl (e 5 h5))))))
  · exact Or.inr (Or.inr (Or.inr (Or.inr (Or.inr (Or.inr (by omega))))))
theorem cnt_in {w : Int32} (h1 : 10 < w) (h2 : w < 17) : ∃ j, j < 7 ∧ w - 10 = nI j := by
  obtain ⟨j, hj, rfl⟩ := nI_of (x := w) (fun z => absurd (Int32.lt_trans h1 z) (by decide))
  have a1 := (nI_ltI (a := 10) (b := j) (by omega) hj).mp h1
  have a2 := (nI_ltI (a := j) (b := 17) hj (by omega)).mp h2
  exact ⟨j - 10, by omega, pk_sub (a := j) (b := 10) (by omega)⟩
theorem cntA_in {β : Bk} {ρ : Nat → Int32} {rw tp w : Int32} (h1 : 10 < w) (h2 : w < 17) : cntA β ρ rw tp w = ρ (w - 10).toNatClampNeg := if_pos ⟨h1, h2⟩
theorem cntA_d {β : Bk} {ρ : Nat → Int32} {rw tp w : Int32} (h : ¬ (10 < w ∧ w < 17)) (hd : w.toInt < 0 ∨ 5 < w.toInt) : cntA β ρ rw tp w = -9 := by
  have n0 : ¬ w = 0 := fun e => by subst e; revert hd; decide
  have n1 : ¬ w = 1 := fun e => by subst e; revert hd; decide
  have n2 : ¬ w = 2 := fun e => by subst e; revert hd; decide
  have n3 : ¬ w = 3 := fun e => by subst e; revert hd; decide
  have n4 : ¬ w = 4 := fun e => by subst e; revert hd; decide
  have n5 : ¬ w = 5 := fun e => by subst e; revert hd; decide
  rw [cntA, if_neg h, if_neg n0, if_neg n1, if_neg n2, if_neg n3, if_neg n4, if_neg n5]
set_option maxHeartbeats 4000000 in
set_option maxRecDepth 100000 in
theorem k_X12_sumOf (l : Launch) (G : GP) (ad : Nat → Nat) (σ : Nat → Nat → Int32) (s : Int32) (e : Int32) (β : Bk) (hR : RB (σ 2) β) : CTE l G yX12_sumOf cX12_sumOf 5 (some .int) 5 [.ref (ad 0), .int s, .int e] (WM G ad σ) (some (.int (sumA β s e))) (fun z => WM G ad (ua σ 0 (upd (upd (upd (upd (σ 0) 9 (z 0 9)) 10 (z 0 10)) 11 (z 0 11)) 12 (z 0 12)))) := by
  refine x_methE "BetsOnBetsModel" rfl (by decide +kernel) (fun z => by rfl) (Nat.le_of_ble_eq_true rfl) ?_
  intro pP eE sS mM args below meth cC A ls hC hr hkL hK hZ hA hH hl
  have hx := hC.1
  have hb := hC.2.1
  have hl : lv_has ls 5 [(0, .ref (ad 0)), (1, .int s), (2, .int e)] := hl
  have hh4 := hR.2.2.1
  have hk6 := hR.2.2.2.1
  have pwh := pw4 hh4
  have pwk := pw6 hk6
  refine lv_iconst (v := 0) hx hb dX12_sumOf_0 (by decide) ?_
  refine lv_istore_n (lv' := [(3, .int 0), (0, .ref (ad 0)), (1, .int s), (2, .int e)]) hx hb dX12_sumOf_1 rfl hl (by decide) rfl (fun ls hl => ?_)
  refine lv_iconst (v := 0) hx hb dX12_sumOf_2 (by decide) ?_
  refine lv_istore (lv' := [(4, .int 0), (3, .int 0), (0, .ref (ad 0)), (1, .int s), (2, .int e)]) hx hb dX12_sumOf_3 hl (by decide) rfl (fun ls hl => ?_)
  refine x_loop (G := G) (A := A) (H0 := sS.heap) (nL := 5) (α := Nat × (Nat → Nat → Int32)) (fun q_ => 4 - q_.1) (fun q_ => q_.1 ≤ 4) (fun q_ => WM G ad (ua σ 0 (upd (upd (upd (upd (σ 0) 9 (q_.2 0 9)) 10 (q_.2 0 10)) 11 (q_.2 0 11)) 12 (q_.2 0 12)))) (fun q_ => [(0, .ref (ad 0)), (1, .int s), (2, .int e), (3, .int (sumS β s e q_.1)), (4, .int (nI q_.1))]) ?_ (0, σ) (show 0 ≤ 4 from (Nat.zero_le _)) ?_ ?_
  · rintro ⟨p, z_p⟩ hi_p ih_p H locs ls hH hl
    replace hi_p : p ≤ 4 := hi_p
    replace hH : Hx G A (WM G ad (ua σ 0 (upd (upd (upd (upd (σ 0) 9 (z_p 0 9)) 10 (z_p 0 10)) 11 (z_p 0 11)) 12 (z_p 0 12)))) sS.heap H locs := hH
    replace hl : lv_has ls 5 [(0, .ref (ad 0)), (1, .int s), (2, .int e), (3, .int (sumS β s e p)), (4, .int (nI p))] := hl
    refine lv_iload hx hb dX12_sumOf_5 (lv_at hl 4 rfl) ?_
    refine lv_iconst (v := 4) hx hb dX12_sumOf_7 (by decide) ?_
    refine lv_icmp_ge (tgt := 41) hx hb dX12_sumOf_8 (by decide) (fun c8 => ?_) (fun c8 => ?_)
    · have ge_p := lp_out (n := 4) rfl (by omega) (by omega) c8
      have eq_p : p = 4 := by omega
      subst eq_p
      refine lv_iload_n hx hb dX12_sumOf_41 rfl (lv_at hl 3 rfl) ?_
      exact x_iretE (ua σ 0 (upd (upd (upd (upd (σ 0) 9 (z_p 0 9)) 10 (z_p 0 10)) 11 (z_p 0 11)) 12 (z_p 0 12))) hC hr hkL hH (by rfl) rfl dX12_sumOf_42
    · have lt_p := lp_in (n := 4) rfl (by omega) (by omega) c8
      refine lv_iload_n hx hb dX12_sumOf_11 rfl (lv_at hl 3 rfl) ?_
      refine lv_iload_n hx hb dX12_sumOf_12 rfl (lv_at hl 1 rfl) ?_
      refine lv_iload hx hb dX12_sumOf_13 (lv_at hl 4 rfl) ?_
      refine lv_ishr hx hb dX12_sumOf_15 ?_
      refine lv_iconst (v := 1) hx hb dX12_sumOf_16 (by decide) ?_
      refine lv_iand hx hb dX12_sumOf_17 ?_
      refine lv_iconst (v := 1) hx hb dX12_sumOf_18 (by decide) ?_
      refine lv_icmp_ne (tgt := 32) hx hb dX12_sumOf_19 (by decide) (fun c19 => ?_) (fun c19 => ?_)
      · refine lv_iconst (v := 0) hx hb dX12_sumOf_32 (by decide) ?_
        refine lv_iadd hx hb dX12_sumOf_33 ?_
        refine lv_istore_n (lv' := [(3, .int ((sumS β s e p) + 0)), (0, .ref (ad 0)), (1, .int s), (2, .int e), (4, .int (nI p))]) hx hb dX12_sumOf_34 rfl hl (by decide) rfl (fun ls hl => ?_)
        refine lv_iinc (v := ((nI p) + 1)) (lv' := [(4, .int ((nI p) + 1)), (3, .int ((sumS β s e p) + 0)), (0, .ref (ad 0)), (1, .int s), (2, .int e)]) hx hb dX12_sumOf_35 hl (k := 4) rfl rfl (by decide) rfl (fun ls hl => ?_)
        refine lv_goto (tgt := 5) hx hb dX12_sumOf_38 (by decide) ?_
        exact ih_p ((p + 1), (ua σ 0 (upd (upd (upd (upd (σ 0) 9 (z_p 0 9)) 10 (z_p 0 10)) 11 (z_p 0 11)) 12 (z_p 0 12)))) (show (p + 1) ≤ 4 from (by omega)) (show 4 - (p + 1) < 4 - p from (by omega)) _ _ _ (hH.eq rfl) (lv_eq (lv_sub hl [2, 3, 4, 1, 0] rfl) (lc_s (lc_s (lc_s (lc_i (by first | (rw [sumS_t c19]; done) | (rw [sumS_f c19]; done) : ((sumS β s e p) + 0) = (sumS β s e (p + 1))) (lc_i (by exact nI_1 _ : ((nI p) + 1) = (nI (p + 1))) rfl))))))
      · refine lv_aload_n hx hb dX12_sumOf_22 rfl (lv_at hl 0 rfl) ?_
        refine lv_iload hx hb dX12_sumOf_23 (lv_at hl 4 rfl) ?_
        refine lv_iload_n hx hb dX12_sumOf_25 rfl (lv_at hl 2 rfl) ?_
        refine x_callVAE (wg := fun z26 => WM G ad (ua σ 0 (upd (upd (upd (upd (σ 0) 9 (z26 0 9)) 10 (z26 0 10)) 11 (z26 0 11)) 12 (z26 0 12)))) (As := [.int (nI p), .int e]) (rest := [.int (sumS β s e p)]) (st' := [.int (purA β (nI p) e), .int (sumS β s e p)]) hC hK hZ hA hl.1 hH (k_X12_purseOf l G ad (ua σ 0 (upd (upd (upd (upd (σ 0) 9 (z_p 0 9)) 10 (z_p 0 10)) 11 (z_p 0 11)) 12 (z_p 0 12))) (nI p) e β hR) lk_X12_132 rfl 0 11 rfl rfl rfl ⟨Nat.le_of_ble_eq_true rfl, Nat.le_of_ble_eq_true rfl⟩ ⟨Nat.le_refl _, Nat.le_refl _⟩ (Nat.le_of_ble_eq_true rfl) rfl dX12_sumOf_26 (fun z26 H locs hH => ?_)
        refine lv_goto (tgt := 33) hx hb dX12_sumOf_29 (by decide) ?_
        refine lv_iadd hx hb dX12_sumOf_33 ?_
        refine lv_istore_n (lv' := [(3, .int ((sumS β s e p) + (purA β (nI p) e))), (0, .ref (ad 0)), (1, .int s), (2, .int e), (4, .int (nI p))]) hx hb dX12_sumOf_34 rfl hl (by decide) rfl (fun ls hl => ?_)
        refine lv_iinc (v := ((nI p) + 1)) (lv' := [(4, .int ((nI p) + 1)), (3, .int ((sumS β s e p) + (purA β (nI p) e))), (0, .ref (ad 0)), (1, .int s), (2, .int e)]) hx hb dX12_sumOf_35 hl (k := 4) rfl rfl (by decide) rfl (fun ls hl => ?_)
        refine lv_goto (tgt := 5) hx hb dX12_sumOf_38 (by decide) ?_
        exact ih_p ((p + 1), (ua σ 0 (upd (upd (upd (upd (σ 0) 9 (z26 0 9)) 10 (z26 0 10)) 11 (z26 0 11)) 12 (z26 0 12)))) (show (p + 1) ≤ 4 from (by omega)) (show 4 - (p + 1) < 4 - p from (by omega)) _ _ _ (hH.eq rfl) (lv_eq (lv_sub hl [2, 3, 4, 1, 0] rfl) (lc_s (lc_s (lc_s (lc_i (by first | (rw [sumS_t c19]; done) | (rw [sumS_f c19]; done) : ((sumS β s e p) + (purA β (nI p) e)) = (sumS β s e (p + 1))) (lc_i (by exact nI_1 _ : ((nI p) + 1) = (nI (p + 1))) rfl))))))
  · exact hH.eq rfl
  · exact lv_eq (lv_sub hl [2, 3, 4, 1, 0] rfl) (lc_s (lc_s (lc_s (lc_i (by rfl : 0 = (sumS β s e 0)) (lc_i (by rfl : 0 = (nI 0)) rfl)))))
set_option maxHeartbeats 4000000 in
set_option maxRecDepth 100000 in
theorem k_X12_groups_1 (l : Launch) (G : GP) (ad : Nat → Nat) (σ : Nat → Nat → Int32) (set : Int32) (e : Int32) (β : Bk) (q : Nat) (hR : RB (σ 2) β) (hq : set = nI q) (hq16 : q < 16) (hpc : popc 4 q < 1) : CTE l G yX12_groups cX12_groups 7 (some .int) 0 [.ref (ad 0), .int set, .int e] (WM G ad σ) (some (.int (grp (zG β e) 1 q))) (fun z => WM G ad (ua σ 0 (upd (upd (upd (upd (σ 0) 9 (z 0 9)) 10 (z 0 10)) 11 (z 0 11)) 12 (z 0 12)))) := by
  refine x_methE "BetsOnBetsModel" rfl (by decide +kernel) (fun z => by rfl) (Nat.le_of_ble_eq_true rfl) ?_
  intro pP eE sS mM args below meth cC A ls hC hr hkL hK hZ hA hH hl
  have hx := hC.1
  have hb := hC.2.1
  have hl : lv_has ls 7 [(0, .ref (ad 0)), (1, .int set), (2, .int e)] := hl
  have hh4 := hR.2.2.1
  have hk6 := hR.2.2.2.1
  have pwh := pw4 hh4
  have pwk := pw6 hk6
  refine lv_iload_n hx hb dX12_groups_0 rfl (lv_at hl 1 rfl) ?_
  refine lv_if_ne (tgt := 6) hx hb dX12_groups_1 (by decide) (fun c1 => ?_) (fun c1 => ?_)
  · exact absurd (show set = 0 by rw [hq, popc4_0 q hq16 hpc]; rfl) c1
  refine lv_iconst (v := 0) hx hb dX12_groups_4 (by decide) ?_
  exact x_iretE σ hC hr hkL hH (by first | (rw [popc4_0 q hq16 hpc]; rfl) | (rw [(nI_eq (a := q) (b := 0) (by omega) (by omega)).mp (hq.symm.trans (Classical.not_not.mp c1))]; rfl) | (rw [(nI_eq (a := q) (b := 0) (by omega) (by omega)).mp (hq.symm.trans c1)]; rfl)) rfl dX12_groups_5
set_option maxHeartbeats 4000000 in
set_option maxRecDepth 100000 in
theorem k_X12_groups_2 (l : Launch) (G : GP) (ad : Nat → Nat) (σ : Nat → Nat → Int32) (set : Int32) (e : Int32) (β : Bk) (q : Nat) (hR : RB (σ 2) β) (hq : set = nI q) (hq16 : q < 16) (hpc : popc 4 q < 2) : CTE l G yX12_groups cX12_groups 7 (some .int) 6 [.ref (ad 0), .int set, .int e] (WM G ad σ) (some (.int (grp (zG β e) 2 q))) (fun z => WM G ad (ua σ 0 (upd (upd (upd (upd (σ 0) 9 (z 0 9)) 10 (z 0 10)) 11 (z 0 11)) 12 (z 0 12)))) := by
  refine x_methE "BetsOnBetsModel" rfl (by decide +kernel) (fun z => by rfl) (Nat.le_of_ble_eq_true rfl) ?_
  intro pP eE sS mM args below meth cC A ls hC hr hkL hK hZ hA hH hl
  have hx := hC.1
  have hb := hC.2.1
  have hl : lv_has ls 7 [(0, .ref (ad 0)), (1, .int set), (2, .int e)] := hl
  have hh4 := hR.2.2.1
  have hk6 := hR.2.2.2.1
  have pwh := pw4 hh4
  have pwk := pw6 hk6
  refine lv_iload_n hx hb dX12_groups_0 rfl (lv_at hl 1 rfl) ?_
  refine lv_if_ne (tgt := 6) hx hb dX12_groups_1 (by decide) (fun c1 => ?_) (fun c1 => ?_)
  · refine lv_iload_n hx hb dX12_groups_6 rfl (lv_at hl 1 rfl) ?_
    skip
    refine lv_iload_n hx hb dX12_groups_7 rfl (lv_at hl 1 rfl) ?_
    refine lv_ineg hx hb dX12_groups_8 ?_
    refine lv_iand hx hb dX12_groups_9 ?_
    refine x_topE (y := (nI (lst q))) (by rw [hq]; exact g_lst q hq16) ?_
    refine lv_istore_n (lv' := [(3, .int (nI (lst q))), (0, .ref (ad 0)), (1, .int set), (2, .int e)]) hx hb dX12_groups_10 rfl hl (by decide) rfl (fun ls hl => ?_)
    refine lv_iconst (v := 1) hx hb dX12_groups_11 (by decide) ?_
    refine lv_istore (lv' := [(4, .int 1), (3, .int (nI (lst q))), (0, .ref (ad 0)), (1, .int set), (2, .int e)]) hx hb dX12_groups_12 hl (by decide) rfl (fun ls hl => ?_)
    have q0_ : ¬ q = 0 := fun z => c1 (by rw [hq, z]; rfl)
    refine lv_iload_n hx hb dX12_groups_14 rfl (lv_at hl 3 rfl) ?_
    refine lv_istore (lv' := [(5, .int set), (4, .int 1), (3, .int (nI (lst q))), (0, .ref (ad 0)), (1, .int set), (2, .int e)]) hx hb dX12_groups_15 hl (by decide) rfl (fun ls hl => ?_)
    refine x_loop (G := G) (A := A) (H0 := sS.heap) (nL := 7) (α := Nat × Nat × Int32 × (Nat → Nat → Int32)) (fun q_ => q_.2.1) (fun q_ => q_.1 ≤ q_.2.1 ∧ q_.1 < 16 ∧ q_.1 &&& q = q_.1 ∧ lpG (zG β e) (grp (zG β e) 1) q q_.2.1 q_.1 q_.2.2.1 = grp (zG β e) 2 q) (fun q_ => WM G ad (ua σ 0 (upd (upd (upd (upd (σ 0) 9 (q_.2.2.2 0 9)) 10 (q_.2.2.2 0 10)) 11 (q_.2.2.2 0 11)) 12 (q_.2.2.2 0 12)))) (fun q_ => [(0, .ref (ad 0)), (1, .int set), (2, .int e), (3, .int (nI (lst q))), (4, .int q_.2.2.1), (5, .int (nI q_.1))]) ?_ (q, 16, 1, σ) (show q ≤ 16 ∧ q < 16 ∧ q &&& q = q ∧ lpG (zG β e) (grp (zG β e) 1) q 16 q 1 = grp (zG β e) 2 q from ⟨by omega, hq16, Nat.and_self q, (if_neg q0_).symm⟩) ?_ ?_
    · rintro ⟨a, f, mo, z_a⟩ hi_a ih_a H locs ls hH hl
      replace hi_a : a ≤ f ∧ a < 16 ∧ a &&& q = a ∧ lpG (zG β e) (grp (zG β e) 1) q f a mo = grp (zG β e) 2 q := hi_a
      replace hH : Hx G A (WM G ad (ua σ 0 (upd (upd (upd (upd (σ 0) 9 (z_a 0 9)) 10 (z_a 0 10)) 11 (z_a 0 11)) 12 (z_a 0 12)))) sS.heap H locs := hH
      replace hl : lv_has ls 7 [(0, .ref (ad 0)), (1, .int set), (2, .int e), (3, .int (nI (lst q))), (4, .int mo), (5, .int (nI a))] := hl
      have hi16_ := hi_a.2.1
      refine lv_iload hx hb dX12_groups_17 (lv_at hl 5 rfl) ?_
      refine lv_if_le (tgt := 90) hx hb dX12_groups_19 (by decide) (fun c19 => ?_) (fun c19 => ?_)
      · refine lv_iload hx hb dX12_groups_90 (lv_at hl 4 rfl) ?_
        exact x_iretE (ua σ 0 (upd (upd (upd (upd (σ 0) 9 (z_a 0 9)) 10 (z_a 0 10)) 11 (z_a 0 11)) 12 (z_a 0 12))) hC hr hkL hH (by have h4_ := hi_a.2.2.2; rw [show a = 0 from (nI_eq (a := a) (b := 0) (by omega) (by omega)).mp (Int32.le_antisymm c19 (nI_pos' (by omega))), lpG_0] at h4_; exact h4_.symm) rfl dX12_groups_92
      · have a0_ : ¬ a = 0 := fun z => by subst z; exact absurd c19 (by decide)
        refine lv_iload hx hb dX12_groups_22 (lv_at hl 5 rfl) ?_
        refine lv_iload_n hx hb dX12_groups_24 rfl (lv_at hl 3 rfl) ?_
        refine lv_iand hx hb dX12_groups_25 ?_
        refine x_topE (y := (nI (a &&& lst q))) (nI_and _ _) ?_
        refine lv_if_eq (tgt := 79) hx hb dX12_groups_26 (by decide) (fun c26 => ?_) (fun c26 => ?_)
        · refine lv_iload hx hb dX12_groups_79 (lv_at hl 5 rfl) ?_
          refine lv_iconst (v := 1) hx hb dX12_groups_81 (by decide) ?_
          refine lv_isub hx hb dX12_groups_82 ?_
          refine lv_iload_n hx hb dX12_groups_83 rfl (lv_at hl 1 rfl) ?_
          refine lv_iand hx hb dX12_groups_84 ?_
          refine lv_istore (lv' := [(5, .int (((nI a) - 1) &&& set)), (0, .ref (ad 0)), (1, .int set), (2, .int e), (3, .int (nI (lst q))), (4, .int mo)]) hx hb dX12_groups_85 hl (by decide) rfl (fun ls hl => ?_)
          refine lv_goto (tgt := 17) hx hb dX12_groups_87 (by decide) ?_
          obtain ⟨f1_, ef1_⟩ : ∃ f1_, f = f1_ + 1 := ⟨f - 1, by have := hi_a.1; omega⟩
          have nx_ := g_nx q hq16 a hi_a.2.1
          have st_ := hi_a.2.2.2
          rw [ef1_, lpG_s a0_] at st_
          exact ih_a (((a - 1) &&& q), (f - 1), mo, (ua σ 0 (upd (upd (upd (upd (σ 0) 9 (z_a 0 9)) 10 (z_a 0 10)) 11 (z_a 0 11)) 12 (z_a 0 12)))) (show ((a - 1) &&& q) ≤ (f - 1) ∧ ((a - 1) &&& q) < 16 ∧ ((a - 1) &&& q) &&& q = ((a - 1) &&& q) ∧ lpG (zG β e) (grp (zG β e) 1) q (f - 1) ((a - 1) &&& q) mo = grp (zG β e) 2 q from ⟨by have := nx_.2.2; have := hi_a.1; omega, nx_.1, nx_.2.1, by rw [ef1_, Nat.add_sub_cancel]; rw [← st_]; congr 1; first | exact (cI_t (Or.inl (z_of (by have := Nat.and_le_left (n := a) (m := lst q); omega) c26))).symm | exact (cI_t (Or.inr (Or.inl ((nI_eq (by omega) (by omega)).mp (c32.trans hq))))).symm | exact (cI_t (Or.inr (Or.inr c42))).symm | exact ((cI_f (fun z => z.elim n26_ (fun z => z.elim (fun z => c32 (by rw [z, hq])) (fun z => z c42)))).trans (if_pos (Int32.not_le.mp c67))).symm | exact ((cI_f (fun z => z.elim n26_ (fun z => z.elim (fun z => c32 (by rw [z, hq])) (fun z => z c42)))).trans (if_neg (Int32.not_lt.mpr c67))).symm⟩) (show (f - 1) < f from (by have := hi_a.1; omega)) _ _ _ (hH.eq rfl) (lv_eq (lv_sub hl [1, 2, 3, 4, 5, 0] rfl) (lc_s (lc_s (lc_s (lc_s (lc_s (lc_i (by rw [hq, g_pred a0_, nI_and] : (((nI a) - 1) &&& set) = (nI ((a - 1) &&& q))) rfl)))))))
        · have n26_ : ¬ a &&& lst q = 0 := fun z => c26 (by rw [z]; rfl)
          refine lv_iload hx hb dX12_groups_29 (lv_at hl 5 rfl) ?_
          refine lv_iload_n hx hb dX12_groups_31 rfl (lv_at hl 1 rfl) ?_
          refine lv_icmp_eq (tgt := 79) hx hb dX12_groups_32 (by decide) (fun c32 => ?_) (fun c32 => ?_)
          · refine lv_iload hx hb dX12_groups_79 (lv_at hl 5 rfl) ?_
            refine lv_iconst (v := 1) hx hb dX12_groups_81 (by decide) ?_
            refine lv_isub hx hb dX12_groups_82 ?_
            refine lv_iload_n hx hb dX12_groups_83 rfl (lv_at hl 1 rfl) ?_
            refine lv_iand hx hb dX12_groups_84 ?_
            refine lv_istore (lv' := [(5, .int (((nI a) - 1) &&& set)), (0, .ref (ad 0)), (1, .int set), (2, .int e), (3, .int (nI (lst q))), (4, .int mo)]) hx hb dX12_groups_85 hl (by decide) rfl (fun ls hl => ?_)
            refine lv_goto (tgt := 17) hx hb dX12_groups_87 (by decide) ?_
            obtain ⟨f1_, ef1_⟩ : ∃ f1_, f = f1_ + 1 := ⟨f - 1, by have := hi_a.1; omega⟩
            have nx_ := g_nx q hq16 a hi_a.2.1
            have st_ := hi_a.2.2.2
            rw [ef1_, lpG_s a0_] at st_
            exact ih_a (((a - 1) &&& q), (f - 1), mo, (ua σ 0 (upd (upd (upd (upd (σ 0) 9 (z_a 0 9)) 10 (z_a 0 10)) 11 (z_a 0 11)) 12 (z_a 0 12)))) (show ((a - 1) &&& q) ≤ (f - 1) ∧ ((a - 1) &&& q) < 16 ∧ ((a - 1) &&& q) &&& q = ((a - 1) &&& q) ∧ lpG (zG β e) (grp (zG β e) 1) q (f - 1) ((a - 1) &&& q) mo = grp (zG β e) 2 q from ⟨by have := nx_.2.2; have := hi_a.1; omega, nx_.1, nx_.2.1, by rw [ef1_, Nat.add_sub_cancel]; rw [← st_]; congr 1; first | exact (cI_t (Or.inl (z_of (by have := Nat.and_le_left (n := a) (m := lst q); omega) c26))).symm | exact (cI_t (Or.inr (Or.inl ((nI_eq (by omega) (by omega)).mp (c32.trans hq))))).symm | exact (cI_t (Or.inr (Or.inr c42))).symm | exact ((cI_f (fun z => z.elim n26_ (fun z => z.elim (fun z => c32 (by rw [z, hq])) (fun z => z c42)))).trans (if_pos (Int32.not_le.mp c67))).symm | exact ((cI_f (fun z => z.elim n26_ (fun z => z.elim (fun z => c32 (by rw [z, hq])) (fun z => z c42)))).trans (if_neg (Int32.not_lt.mpr c67))).symm⟩) (show (f - 1) < f from (by have := hi_a.1; omega)) _ _ _ (hH.eq rfl) (lv_eq (lv_sub hl [1, 2, 3, 4, 5, 0] rfl) (lc_s (lc_s (lc_s (lc_s (lc_s (lc_i (by rw [hq, g_pred a0_, nI_and] : (((nI a) - 1) &&& set) = (nI ((a - 1) &&& q))) rfl)))))))
          · refine lv_aload_n hx hb dX12_groups_35 rfl (lv_at hl 0 rfl) ?_
            refine lv_iload hx hb dX12_groups_36 (lv_at hl 5 rfl) ?_
            refine lv_iload_n hx hb dX12_groups_38 rfl (lv_at hl 2 rfl) ?_
            refine x_callVAE (wg := fun z39 => WM G ad (ua σ 0 (upd (upd (upd (upd (σ 0) 9 (z39 0 9)) 10 (z39 0 10)) 11 (z39 0 11)) 12 (z39 0 12)))) (As := [.int (nI a), .int e]) (rest := []) (st' := [.int (sumA β (nI a) e)]) hC hK hZ hA hl.1 hH (k_X12_sumOf l G ad (ua σ 0 (upd (upd (upd (upd (σ 0) 9 (z_a 0 9)) 10 (z_a 0 10)) 11 (z_a 0 11)) 12 (z_a 0 12))) (nI a) e β hR) lk_X12_158 rfl 0 11 rfl rfl rfl ⟨Nat.le_of_ble_eq_true rfl, Nat.le_of_ble_eq_true rfl⟩ ⟨Nat.le_refl _, Nat.le_refl _⟩ (Nat.le_of_ble_eq_true rfl) rfl dX12_groups_39 (fun z39 H locs hH => ?_)
            refine x_topE (y := (sumA β (nI a) e)) rfl ?_
            refine lv_if_eq (tgt := 48) hx hb dX12_groups_42 (by decide) (fun c42 => ?_) (fun c42 => ?_)
            · refine lv_iconst (v := 1) hx hb dX12_groups_48 (by decide) ?_
              refine lv_aload_n hx hb dX12_groups_49 rfl (lv_at hl 0 rfl) ?_
              refine lv_iload_n hx hb dX12_groups_50 rfl (lv_at hl 1 rfl) ?_
              refine lv_iload hx hb dX12_groups_51 (lv_at hl 5 rfl) ?_
              refine lv_iconst (v := (-1)) hx hb dX12_groups_53 (by decide) ?_
              refine lv_ixor hx hb dX12_groups_54 ?_
              refine lv_iand hx hb dX12_groups_55 ?_
              refine lv_iload_n hx hb dX12_groups_56 rfl (lv_at hl 2 rfl) ?_
              refine x_callVAE (wg := fun z57 => WM G ad (ua σ 0 (upd (upd (upd (upd (σ 0) 9 (z57 0 9)) 10 (z57 0 10)) 11 (z57 0 11)) 12 (z57 0 12)))) (As := [.int (set &&& ((nI a) ^^^ (-1))), .int e]) (rest := [.int 1]) (st' := [.int (grp (zG β e) 1 (q &&& (15 ^^^ a))), .int 1]) hC hK hZ hA hl.1 hH (k_X12_groups_1 l G ad (ua σ 0 (upd (upd (upd (upd (σ 0) 9 (z39 0 9)) 10 (z39 0 10)) 11 (z39 0 11)) 12 (z39 0 12))) (set &&& ((nI a) ^^^ (-1))) e β (q &&& (15 ^^^ a)) hR (by rw [hq]; exact g_sub q hq16 a hi_a.2.1) (g_sub16 q hq16 a hi_a.2.1) (Nat.lt_of_lt_of_le (g_pc q hq16 a hi_a.2.1 hi_a.2.2.1 n26_) (by omega))) lk_X12_161 rfl 0 11 rfl rfl rfl ⟨Nat.le_of_ble_eq_true rfl, Nat.le_of_ble_eq_true rfl⟩ ⟨Nat.le_refl _, Nat.le_refl _⟩ (Nat.le_of_ble_eq_true rfl) rfl dX12_groups_57 (fun z57 H locs hH => ?_)
              refine lv_iadd hx hb dX12_groups_60 ?_
              refine lv_istore (lv' := [(6, .int (1 + (grp (zG β e) 1 (q &&& (15 ^^^ a))))), (0, .ref (ad 0)), (1, .int set), (2, .int e), (3, .int (nI (lst q))), (4, .int mo), (5, .int (nI a))]) hx hb dX12_groups_61 hl (by decide) rfl (fun ls hl => ?_)
              refine lv_iload hx hb dX12_groups_63 (lv_at hl 0 rfl) ?_
              refine lv_iload hx hb dX12_groups_65 (lv_at hl 5 rfl) ?_
              refine lv_icmp_le (tgt := 75) hx hb dX12_groups_67 (by decide) (fun c67 => ?_) (fun c67 => ?_)
              · refine lv_iload hx hb dX12_groups_75 (lv_at hl 5 rfl) ?_
                refine lv_istore (lv' := [(4, .int mo), (6, .int (1 + (grp (zG β e) 1 (q &&& (15 ^^^ a))))), (0, .ref (ad 0)), (1, .int set), (2, .int e), (3, .int (nI (lst q))), (5, .int (nI a))]) hx hb dX12_groups_77 hl (by decide) rfl (fun ls hl => ?_)
                refine lv_iload hx hb dX12_groups_79 (lv_at hl 6 rfl) ?_
                refine lv_iconst (v := 1) hx hb dX12_groups_81 (by decide) ?_
                refine lv_isub hx hb dX12_groups_82 ?_
                refine lv_iload_n hx hb dX12_groups_83 rfl (lv_at hl 3 rfl) ?_
                refine lv_iand hx hb dX12_groups_84 ?_
                refine lv_istore (lv' := [(5, .int (((nI a) - 1) &&& set)), (4, .int mo), (6, .int (1 + (grp (zG β e) 1 (q &&& (15 ^^^ a))))), (0, .ref (ad 0)), (1, .int set), (2, .int e), (3, .int (nI (lst q)))]) hx hb dX12_groups_85 hl (by decide) rfl (fun ls hl => ?_)
                refine lv_goto (tgt := 17) hx hb dX12_groups_87 (by decide) ?_
                obtain ⟨f1_, ef1_⟩ : ∃ f1_, f = f1_ + 1 := ⟨f - 1, by have := hi_a.1; omega⟩
                have nx_ := g_nx q hq16 a hi_a.2.1
                have st_ := hi_a.2.2.2
                rw [ef1_, lpG_s a0_] at st_
                exact ih_a (((a - 1) &&& q), (f - 1), mo, (ua σ 0 (upd (upd (upd (upd (σ 0) 9 (z57 0 9)) 10 (z57 0 10)) 11 (z57 0 11)) 12 (z57 0 12)))) (show ((a - 1) &&& q) ≤ (f - 1) ∧ ((a - 1) &&& q) < 16 ∧ ((a - 1) &&& q) &&& q = ((a - 1) &&& q) ∧ lpG (zG β e) (grp (zG β e) 1) q (f - 1) ((a - 1) &&& q) mo = grp (zG β e) 2 q from ⟨by have := nx_.2.2; have := hi_a.1; omega, nx_.1, nx_.2.1, by rw [ef1_, Nat.add_sub_cancel]; rw [← st_]; congr 1; first | exact (cI_t (Or.inl (z_of (by have := Nat.and_le_left (n := a) (m := lst q); omega) c26))).symm | exact (cI_t (Or.inr (Or.inl ((nI_eq (by omega) (by omega)).mp (c32.trans hq))))).symm | exact (cI_t (Or.inr (Or.inr c42))).symm | exact ((cI_f (fun z => z.elim n26_ (fun z => z.elim (fun z => c32 (by rw [z, hq])) (fun z => z c42)))).trans (if_pos (Int32.not_le.mp c67))).symm | exact ((cI_f (fun z => z.elim n26_ (fun z => z.elim (fun z => c32 (by rw [z, hq])) (fun z => z c42)))).trans (if_neg (Int32.not_lt.mpr c67))).symm⟩) (show (f - 1) < f from (by have := hi_a.1; omega)) _ _ _ (hH.eq rfl) (lv_eq (lv_sub hl [3, 4, 5, 6, 1, 0] rfl) (lc_s (lc_s (lc_s (lc_s (lc_s (lc_i (by rw [hq, g_pred a0_, nI_and] : (((nI a) - 1) &&& set) = (nI ((a - 1) &&& q))) rfl)))))))
              · refine lv_iload hx hb dX12_groups_70 (lv_at hl 0 rfl) ?_
                refine lv_goto (tgt := 77) hx hb dX12_groups_72 (by decide) ?_
                refine lv_istore (lv' := [(4, .int (1 + (grp (zG β e) 1 (q &&& (15 ^^^ a))))), (6, .int (1 + (grp (zG β e) 1 (q &&& (15 ^^^ a))))), (0, .ref (ad 0)), (1, .int set), (2, .int e), (3, .int (nI (lst q))), (5, .int (nI a))]) hx hb dX12_groups_77 hl (by decide) rfl (fun ls hl => ?_)
                refine lv_iload hx hb dX12_groups_79 (lv_at hl 6 rfl) ?_
                refine lv_iconst (v := 1) hx hb dX12_groups_81 (by decide) ?_
                refine lv_isub hx hb dX12_groups_82 ?_
                refine lv_iload_n hx hb dX12_groups_83 rfl (lv_at hl 3 rfl) ?_
                refine lv_iand hx hb dX12_groups_84 ?_
                refine lv_istore (lv' := [(5, .int (((nI a) - 1) &&& set)), (4, .int (1 + (grp (zG β e) 1 (q &&& (15 ^^^ a))))), (6, .int (1 + (grp (zG β e) 1 (q &&& (15 ^^^ a))))), (0, .ref (ad 0)), (1, .int set), (2, .int e), (3, .int (nI (lst q)))]) hx hb dX12_groups_85 hl (by decide) rfl (fun ls hl => ?_)
                refine lv_goto (tgt := 17) hx hb dX12_groups_87 (by decide) ?_
                obtain ⟨f1_, ef1_⟩ : ∃ f1_, f = f1_ + 1 := ⟨f - 1, by have := hi_a.1; omega⟩
                have nx_ := g_nx q hq16 a hi_a.2.1
                have st_ := hi_a.2.2.2
                rw [ef1_, lpG_s a0_] at st_
                exact ih_a (((a - 1) &&& q), (f - 1), (1 + (grp (zG β e) 1 (q &&& (15 ^^^ a)))), (ua σ 0 (upd (upd (upd (upd (σ 0) 9 (z57 0 9)) 10 (z57 0 10)) 11 (z57 0 11)) 12 (z57 0 12)))) (show ((a - 1) &&& q) ≤ (f - 1) ∧ ((a - 1) &&& q) < 16 ∧ ((a - 1) &&& q) &&& q = ((a - 1) &&& q) ∧ lpG (zG β e) (grp (zG β e) 1) q (f - 1) ((a - 1) &&& q) (1 + (grp (zG β e) 1 (q &&& (15 ^^^ a)))) = grp (zG β e) 2 q from ⟨by have := nx_.2.2; have := hi_a.1; omega, nx_.1, nx_.2.1, by rw [ef1_, Nat.add_sub_cancel]; rw [← st_]; congr 1; first | exact (cI_t (Or.inl (z_of (by have := Nat.and_le_left (n := a) (m := lst q); omega) c26))).symm | exact (cI_t (Or.inr (Or.inl ((nI_eq (by omega) (by omega)).mp (c32.trans hq))))).symm | exact (cI_t (Or.inr (Or.inr c42))).symm | exact ((cI_f (fun z => z.elim n26_ (fun z => z.elim (fun z => c32 (by rw [z, hq])) (fun z => z c42)))).trans (if_pos (Int32.not_le.mp c67))).symm | exact ((cI_f (fun z => z.elim n26_ (fun z => z.elim (fun z => c32 (by rw [z, hq])) (fun z => z c42)))).trans (if_neg (Int32.not_lt.mpr c67))).symm⟩) (show (f - 1) < f from (by have := hi_a.1; omega)) _ _ _ (hH.eq rfl) (lv_eq (lv_sub hl [3, 4, 5, 6, 1, 0] rfl) (lc_s (lc_s (lc_s (lc_s (lc_s (lc_i (by rw [hq, g_pred a0_, nI_and] : (((nI a) - 1) &&& set) = (nI ((a - 1) &&& q))) rfl)))))))
            · refine lv_goto (tgt := 79) hx hb dX12_groups_45 (by decide) ?_
              refine lv_iload hx hb dX12_groups_79 (lv_at hl 5 rfl) ?_
              refine lv_iconst (v := 1) hx hb dX12_groups_81 (by decide) ?_
              refine lv_isub hx hb dX12_groups_82 ?_
              refine lv_iload_n hx hb dX12_groups_83 rfl (lv_at hl 1 rfl) ?_
              refine lv_iand hx hb dX12_groups_84 ?_
              refine lv_istore (lv' := [(5, .int (((nI a) - 1) &&& set)), (0, .ref (ad 0)), (1, .int set), (2, .int e), (3, .int (nI (lst q))), (4, .int mo)]) hx hb dX12_groups_85 hl (by decide) rfl (fun ls hl => ?_)
              refine lv_goto (tgt := 17) hx hb dX12_groups_87 (by decide) ?_
              obtain ⟨f1_, ef1_⟩ : ∃ f1_, f = f1_ + 1 := ⟨f - 1, by have := hi_a.1; omega⟩
              have nx_ := g_nx q hq16 a hi_a.2.1
              have st_ := hi_a.2.2.2
              rw [ef1_, lpG_s a0_] at st_
              exact ih_a (((a - 1) &&& q), (f - 1), mo, (ua σ 0 (upd (upd (upd (upd (σ 0) 9 (z39 0 9)) 10 (z39 0 10)) 11 (z39 0 11)) 12 (z39 0 12)))) (show ((a - 1) &&& q) ≤ (f - 1) ∧ ((a - 1) &&& q) < 16 ∧ ((a - 1) &&& q) &&& q = ((a - 1) &&& q) ∧ lpG (zG β e) (grp (zG β e) 1) q (f - 1) ((a - 1) &&& q) mo = grp (zG β e) 2 q from ⟨by have := nx_.2.2; have := hi_a.1; omega, nx_.1, nx_.2.1, by rw [ef1_, Nat.add_sub_cancel]; rw [← st_]; congr 1; first | exact (cI_t (Or.inl (z_of (by have := Nat.and_le_left (n := a) (m := lst q); omega) c26))).symm | exact (cI_t (Or.inr (Or.inl ((nI_eq (by omega) (by omega)).mp (c32.trans hq))))).symm | exact (cI_t (Or.inr (Or.inr c42))).symm | exact ((cI_f (fun z => z.elim n26_ (fun z => z.elim (fun z => c32 (by rw [z, hq])) (fun z => z c42)))).trans (if_pos (Int32.not_le.mp c67))).symm | exact ((cI_f (fun z => z.elim n26_ (fun z => z.elim (fun z => c32 (by rw [z, hq])) (fun z => z c42)))).trans (if_neg (Int32.not_lt.mpr c67))).symm⟩) (show (f - 1) < f from (by have := hi_a.1; omega)) _ _ _ (hH.eq rfl) (lv_eq (lv_sub hl [1, 2, 3, 4, 5, 0] rfl) (lc_s (lc_s (lc_s (lc_s (lc_s (lc_i (by rw [hq, g_pred a0_, nI_and] : (((nI a) - 1) &&& set) = (nI ((a - 1) &&& q))) rfl)))))))
    · exact hH.eq rfl
    · exact lv_eq (lv_sub hl [3, 4, 5, 2, 1, 0] rfl) (lc_s (lc_s (lc_s (lc_s (lc_s (lc_i (by exact hq : set = (nI q)) rfl))))))
  · refine lv_iconst (v := 0) hx hb dX12_groups_4 (by decide) ?_
    exact x_iretE σ hC hr hkL hH (by first | (rw [popc4_0 q hq16 hpc]; rfl) | (rw [(nI_eq (a := q) (b := 0) (by omega) (by omega)).mp (hq.symm.trans (Classical.not_not.mp c1))]; rfl) | (rw [(nI_eq (a := q) (b := 0) (by omega) (by omega)).mp (hq.symm.trans c1)]; rfl)) rfl dX12_groups_5
set_option maxHeartbeats 4000000 in
set_option maxRecDepth 100000 in
theorem k_X12_groups_3 (l : Launch) (G : GP) (ad : Nat → Nat) (σ : Nat → Nat → Int32) (set : Int32) (e : Int32) (β : Bk) (q : Nat) (hR : RB (σ 2) β) (hq : set = nI q) (hq16 : q < 16) (hpc : popc 4 q < 3) : CTE l G yX12_groups cX12_groups 7 (some .int) 7 [.ref (ad 0), .int set, .int e] (WM G ad σ) (some (.int (grp (zG β e) 3 q))) (fun z => WM G ad (ua σ 0 (upd (upd (upd (upd (σ 0) 9 (z 0 9)) 10 (z 0 10)) 11 (z 0 11)) 12 (z 0 12)))) := by
  refine x_methE "BetsOnBetsModel" rfl (by decide +kernel) (fun z => by rfl) (Nat.le_of_ble_eq_true rfl) ?_
  intro pP eE sS mM args below meth cC A ls hC hr hkL hK hZ hA hH hl
  have hx := hC.1
  have hb := hC.2.1
  have hl : lv_has ls 7 [(0, .ref (ad 0)), (1, .int set), (2, .int e)] := hl
  have hh4 := hR.2.2.1
  have hk6 := hR.2.2.2.1
  have pwh := pw4 hh4
  have pwk := pw6 hk6
  refine lv_iload_n hx hb dX12_groups_0 rfl (lv_at hl 1 rfl) ?_
  refine lv_if_ne (tgt := 6) hx hb dX12_groups_1 (by decide) (fun c1 => ?_) (fun c1 => ?_)
  · refine lv_iload_n hx hb dX12_groups_6 rfl (lv_at hl 1 rfl) ?_
    skip
    refine lv_iload_n hx hb dX12_groups_7 rfl (lv_at hl 1 rfl) ?_
    refine lv_ineg hx hb dX12_groups_8 ?_
    refine lv_iand hx hb dX12_groups_9 ?_
    refine x_topE (y := (nI (lst q))) (by rw [hq]; exact g_lst q hq16) ?_
    refine lv_istore_n (lv' := [(3, .int (nI (lst q))), (0, .ref (ad 0)), (1, .int set), (2, .int e)]) hx hb dX12_groups_10 rfl hl (by decide) rfl (fun ls hl => ?_)
    refine lv_iconst (v := 1) hx hb dX12_groups_11 (by decide) ?_
    refine lv_istore (lv' := [(4, .int 1), (3, .int (nI (lst q))), (0, .ref (ad 0)), (1, .int set), (2, .int e)]) hx hb dX12_groups_12 hl (by decide) rfl (fun ls hl => ?_)
    have q0_ : ¬ q = 0 := fun z => c1 (by rw [hq, z]; rfl)
    refine lv_iload_n hx hb dX12_groups_14 rfl (lv_at hl 3 rfl) ?_
    refine lv_istore (lv' := [(5, .int set), (4, .int 1), (3, .int (nI (lst q))), (0, .ref (ad 0)), (1, .int set), (2, .int e)]) hx hb dX12_groups_15 hl (by decide) rfl (fun ls hl => ?_)
    refine x_loop (G := G) (A := A) (H0 := sS.heap) (nL := 7) (α := Nat × Nat × Int32 × (Nat → Nat → Int32)) (fun q_ => q_.2.1) (fun q_ => q_.1 ≤ q_.2.1 ∧ q_.1 < 16 ∧ q_.1 &&& q = q_.1 ∧ lpG (zG β e) (grp (zG β e) 2) q q_.2.1 q_.1 q_.2.2.1 = grp (zG β e) 3 q) (fun q_ => WM G ad (ua σ 0 (upd (upd (upd (upd (σ 0) 9 (q_.2.2.2 0 9)) 10 (q_.2.2.2 0 10)) 11 (q_.2.2.2 0 11)) 12 (q_.2.2.2 0 12)))) (fun q_ => [(0, .ref (ad 0)), (1, .int set), (2, .int e), (3, .int (nI (lst q))), (4, .int q_.2.2.1), (5, .int (nI q_.1))]) ?_ (q, 16, 1, σ) (show q ≤ 16 ∧ q < 16 ∧ q &&& q = q ∧ lpG (zG β e) (grp (zG β e) 2) q 16 q 1 = grp (zG β e) 3 q from ⟨by omega, hq16, Nat.and_self q, (if_neg q0_).symm⟩) ?_ ?_
    · rintro ⟨a, f, mo, z_a⟩ hi_a ih_a H locs ls hH hl
      replace hi_a : a ≤ f ∧ a < 16 ∧ a &&& q = a ∧ lpG (zG β e) (grp (zG β e) 2) q f a mo = grp (zG β e) 3 q := hi_a
      replace hH : Hx G A (WM G ad (ua σ 0 (upd (upd (upd (upd (σ 0) 9 (z_a 0 9)) 10 (z_a 0 10)) 11 (z_a 0 11)) 12 (z_a 0 12)))) sS.heap H locs := hH
      replace hl : lv_has ls 7 [(0, .ref (ad 0)), (1, .int set), (2, .int e), (3, .int (nI (lst q))), (4, .int mo), (5, .int (nI a))] := hl
      have hi16_ := hi_a.2.1
      refine lv_iload hx hb dX12_groups_17 (lv_at hl 5 rfl) ?_
      refine lv_if_le (tgt := 90) hx hb dX12_groups_19 (by decide) (fun c19 => ?_) (fun c19 => ?_)
      · refine lv_iload hx hb dX12_groups_90 (lv_at hl 4 rfl) ?_
        exact x_iretE (ua σ 0 (upd (upd (upd (upd (σ 0) 9 (z_a 0 9)) 10 (z_a 0 10)) 11 (z_a 0 11)) 12 (z_a 0 12))) hC hr hkL hH (by have h4_ := hi_a.2.2.2; rw [show a = 0 from (nI_eq (a := a) (b := 0) (by omega) (by omega)).mp (Int32.le_antisymm c19 (nI_pos' (by omega))), lpG_0] at h4_; exact h4_.symm) rfl dX12_groups_92
      · have a0_ : ¬ a = 0 := fun z => by subst z; exact absurd c19 (by decide)
        refine lv_iload hx hb dX12_groups_22 (lv_at hl 5 rfl) ?_
        refine lv_iload_n hx hb dX12_groups_24 rfl (lv_at hl 3 rfl) ?_
        refine lv_iand hx hb dX12_groups_25 ?_
        refine x_topE (y := (nI (a &&& lst q))) (nI_and _ _) ?_
        refine lv_if_eq (tgt := 79) hx hb dX12_groups_26 (by decide) (fun c26 => ?_) (fun c26 => ?_)
        · refine lv_iload hx hb dX12_groups_79 (lv_at hl 5 rfl) ?_
          refine lv_iconst (v := 1) hx hb dX12_groups_81 (by decide) ?_
          refine lv_isub hx hb dX12_groups_82 ?_
          refine lv_iload_n hx hb dX12_groups_83 rfl (lv_at hl 1 rfl) ?_
          refine lv_iand hx hb dX12_groups_84 ?_
          refine lv_istore (lv' := [(5, .int (((nI a) - 1) &&& set)), (0, .ref (ad 0)), (1, .int set), (2, .int e), (3, .int (nI (lst q))), (4, .int mo)]) hx hb dX12_groups_85 hl (by decide) rfl (fun ls hl => ?_)
          refine lv_goto (tgt := 17) hx hb dX12_groups_87 (by decide) ?_
          obtain ⟨f1_, ef1_⟩ : ∃ f1_, f = f1_ + 1 := ⟨f - 1, by have := hi_a.1; omega⟩
          have nx_ := g_nx q hq16 a hi_a.2.1
          have st_ := hi_a.2.2.2
          rw [ef1_, lpG_s a0_] at st_
          exact ih_a (((a - 1) &&& q), (f - 1), mo, (ua σ 0 (upd (upd (upd (upd (σ 0) 9 (z_a 0 9)) 10 (z_a 0 10)) 11 (z_a 0 11)) 12 (z_a 0 12)))) (show ((a - 1) &&& q) ≤ (f - 1) ∧ ((a - 1) &&& q) < 16 ∧ ((a - 1) &&& q) &&& q = ((a - 1) &&& q) ∧ lpG (zG β e) (grp (zG β e) 2) q (f - 1) ((a - 1) &&& q) mo = grp (zG β e) 3 q from ⟨by have := nx_.2.2; have := hi_a.1; omega, nx_.1, nx_.2.1, by rw [ef1_, Nat.add_sub_cancel]; rw [← st_]; congr 1; first | exact (cI_t (Or.inl (z_of (by have := Nat.and_le_left (n := a) (m := lst q); omega) c26))).symm | exact (cI_t (Or.inr (Or.inl ((nI_eq (by omega) (by omega)).mp (c32.trans hq))))).symm | exact (cI_t (Or.inr (Or.inr c42))).symm | exact ((cI_f (fun z => z.elim n26_ (fun z => z.elim (fun z => c32 (by rw [z, hq])) (fun z => z c42)))).trans (if_pos (Int32.not_le.mp c67))).symm | exact ((cI_f (fun z => z.elim n26_ (fun z => z.elim (fun z => c32 (by rw [z, hq])) (fun z => z c42)))).trans (if_neg (Int32.not_lt.mpr c67))).symm⟩) (show (f - 1) < f from (by have := hi_a.1; omega)) _ _ _ (hH.eq rfl) (lv_eq (lv_sub hl [1, 2, 3, 4, 5, 0] rfl) (lc_s (lc_s (lc_s (lc_s (lc_s (lc_i (by rw [hq, g_pred a0_, nI_and] : (((nI a) - 1) &&& set) = (nI ((a - 1) &&& q))) rfl)))))))
        · have n26_ : ¬ a &&& lst q = 0 := fun z => c26 (by rw [z]; rfl)
          refine lv_iload hx hb dX12_groups_29 (lv_at hl 5 rfl) ?_
          refine lv_iload_n hx hb dX12_groups_31 rfl (lv_at hl 1 rfl) ?_
          refine lv_icmp_eq (tgt := 79) hx hb dX12_groups_32 (by decide) (fun c32 => ?_) (fun c32 => ?_)
          · refine lv_iload hx hb dX12_groups_79 (lv_at hl 5 rfl) ?_
            refine lv_iconst (v := 1) hx hb dX12_groups_81 (by decide) ?_
            refine lv_isub hx hb dX12_groups_82 ?_
            refine lv_iload_n hx hb dX12_groups_83 rfl (lv_at hl 1 rfl) ?_
            refine lv_iand hx hb dX12_groups_84 ?_
            refine lv_istore (lv' := [(5, .int (((nI a) - 1) &&& set)), (0, .ref (ad 0)), (1, .int set), (2, .int e), (3, .int (nI (lst q))), (4, .int mo)]) hx hb dX12_groups_85 hl (by decide) rfl (fun ls hl => ?_)
            refine lv_goto (tgt := 17) hx hb dX12_groups_87 (by decide) ?_
            obtain ⟨f1_, ef1_⟩ : ∃ f1_, f = f1_ + 1 := ⟨f - 1, by have := hi_a.1; omega⟩
            have nx_ := g_nx q hq16 a hi_a.2.1
            have st_ := hi_a.2.2.2
            rw [ef1_, lpG_s a0_] at st_
            exact ih_a (((a - 1) &&& q), (f - 1), mo, (ua σ 0 (upd (upd (upd (upd (σ 0) 9 (z_a 0 9)) 10 (z_a 0 10)) 11 (z_a 0 11)) 12 (z_a 0 12)))) (show ((a - 1) &&& q) ≤ (f - 1) ∧ ((a - 1) &&& q) < 16 ∧ ((a - 1) &&& q) &&& q = ((a - 1) &&& q) ∧ lpG (zG β e) (grp (zG β e) 2) q (f - 1) ((a - 1) &&& q) mo = grp (zG β e) 3 q from ⟨by have := nx_.2.2; have := hi_a.1; omega, nx_.1, nx_.2.1, by rw [ef1_, Nat.add_sub_cancel]; rw [← st_]; congr 1; first | exact (cI_t (Or.inl (z_of (by have := Nat.and_le_left (n := a) (m := lst q); omega) c26))).symm | exact (cI_t (Or.inr (Or.inl ((nI_eq (by omega) (by omega)).mp (c32.trans hq))))).symm | exact (cI_t (Or.inr (Or.inr c42))).symm | exact ((cI_f (fun z => z.elim n26_ (fun z => z.elim (fun z => c32 (by rw [z, hq])) (fun z => z c42)))).trans (if_pos (Int32.not_le.mp c67))).symm | exact ((cI_f (fun z => z.elim n26_ (fun z => z.elim (fun z => c32 (by rw [z, hq])) (fun z => z c42)))).trans (if_neg (Int32.not_lt.mpr c67))).symm⟩) (show (f - 1) < f from (by have := hi_a.1; omega)) _ _ _ (hH.eq rfl) (lv_eq (lv_sub hl [1, 2, 3, 4, 5, 0] rfl) (lc_s (lc_s (lc_s (lc_s (lc_s (lc_i (by rw [hq, g_pred a0_, nI_and] : (((nI a) - 1) &&& set) = (nI ((a - 1) &&& q))) rfl)))))))
          · refine lv_aload_n hx hb dX12_groups_35 rfl (lv_at hl 0 rfl) ?_
            refine lv_iload hx hb dX12_groups_36 (lv_at hl 5 rfl) ?_
            refine lv_iload_n hx hb dX12_groups_38 rfl (lv_at hl 2 rfl) ?_
            refine x_callVAE (wg := fun z39 => WM G ad (ua σ 0 (upd (upd (upd (upd (σ 0) 9 (z39 0 9)) 10 (z39 0 10)) 11 (z39 0 11)) 12 (z39 0 12)))) (As := [.int (nI a), .int e]) (rest := []) (st' := [.int (sumA β (nI a) e)]) hC hK hZ hA hl.1 hH (k_X12_sumOf l G ad (ua σ 0 (upd (upd (upd (upd (σ 0) 9 (z_a 0 9)) 10 (z_a 0 10)) 11 (z_a 0 11)) 12 (z_a 0 12))) (nI a) e β hR) lk_X12_158 rfl 0 11 rfl rfl rfl ⟨Nat.le_of_ble_eq_true rfl, Nat.le_of_ble_eq_true rfl⟩ ⟨Nat.le_refl _, Nat.le_refl _⟩ (Nat.le_of_ble_eq_true rfl) rfl dX12_groups_39 (fun z39 H locs hH => ?_)
            refine x_topE (y := (sumA β (nI a) e)) rfl ?_
            refine lv_if_eq (tgt := 48) hx hb dX12_groups_42 (by decide) (fun c42 => ?_) (fun c42 => ?_)
            · refine lv_iconst (v := 1) hx hb dX12_groups_48 (by decide) ?_
              refine lv_aload_n hx hb dX12_groups_49 rfl (lv_at hl 0 rfl) ?_
              refine lv_iload_n hx hb dX12_groups_50 rfl (lv_at hl 1 rfl) ?_
              refine lv_iload hx hb dX12_groups_51 (lv_at hl 5 rfl) ?_
              refine lv_iconst (v := (-1)) hx hb dX12_groups_53 (by decide) ?_
              refine lv_ixor hx hb dX12_groups_54 ?_
              refine lv_iand hx hb dX12_groups_55 ?_
              refine lv_iload_n hx hb dX12_groups_56 rfl (lv_at hl 2 rfl) ?_
              refine x_callVAE (wg := fun z57 => WM G ad (ua σ 0 (upd (upd (upd (upd (σ 0) 9 (z57 0 9)) 10 (z57 0 10)) 11 (z57 0 11)) 12 (z57 0 12)))) (As := [.int (set &&& ((nI a) ^^^ (-1))), .int e]) (rest := [.int 1]) (st' := [.int (grp (zG β e) 2 (q &&& (15 ^^^ a))), .int 1]) hC hK hZ hA hl.1 hH (k_X12_groups_2 l G ad (ua σ 0 (upd (upd (upd (upd (σ 0) 9 (z39 0 9)) 10 (z39 0 10)) 11 (z39 0 11)) 12 (z39 0 12))) (set &&& ((nI a) ^^^ (-1))) e β (q &&& (15 ^^^ a)) hR (by rw [hq]; exact g_sub q hq16 a hi_a.2.1) (g_sub16 q hq16 a hi_a.2.1) (Nat.lt_of_lt_of_le (g_pc q hq16 a hi_a.2.1 hi_a.2.2.1 n26_) (by omega))) lk_X12_161 rfl 0 11 rfl rfl rfl ⟨Nat.le_of_ble_eq_true rfl, Nat.le_of_ble_eq_true rfl⟩ ⟨Nat.le_refl _, Nat.le_refl _⟩ (Nat.le_of_ble_eq_true rfl) rfl dX12_groups_57 (fun z57 H locs hH => ?_)
              refine lv_iadd hx hb dX12_groups_60 ?_
              refine lv_istore (lv' := [(6, .int (1 + (grp (zG β e) 2 (q &&& (15 ^^^ a))))), (0, .ref (ad 0)), (1, .int set), (2, .int e), (3, .int (nI (lst q))), (4, .int mo), (5, .int (nI a))]) hx hb dX12_groups_61 hl (by decide) rfl (fun ls hl => ?_)
              refine lv_iload hx hb dX12_groups_63 (lv_at hl 0 rfl) ?_
              refine lv_iload hx hb dX12_groups_65 (lv_at hl 5 rfl) ?_
              refine lv_icmp_le (tgt := 75) hx hb dX12_groups_67 (by decide) (fun c67 => ?_) (fun c67 => ?_)
              · refine lv_iload hx hb dX12_groups_75 (lv_at hl 5 rfl) ?_
                refine lv_istore (lv' := [(4, .int mo), (6, .int (1 + (grp (zG β e) 2 (q &&& (15 ^^^ a))))), (0, .ref (ad 0)), (1, .int set), (2, .int e), (3, .int (nI (lst q))), (5, .int (nI a))]) hx hb dX12_groups_77 hl (by decide) rfl (fun ls hl => ?_)
                refine lv_iload hx hb dX12_groups_79 (lv_at hl 6 rfl) ?_
                refine lv_iconst (v := 1) hx hb dX12_groups_81 (by decide) ?_
                refine lv_isub hx hb dX12_groups_82 ?_
                refine lv_iload_n hx hb dX12_groups_83 rfl (lv_at hl 3 rfl) ?_
                refine lv_iand hx hb dX12_groups_84 ?_
                refine lv_istore (lv' := [(5, .int (((nI a) - 1) &&& set)), (4, .int mo), (6, .int (1 + (grp (zG β e) 2 (q &&& (15 ^^^ a))))), (0, .ref (ad 0)), (1, .int set), (2, .int e), (3, .int (nI (lst q)))]) hx hb dX12_groups_85 hl (by decide) rfl (fun ls hl => ?_)
                refine lv_goto (tgt := 17) hx hb dX12_groups_87 (by decide) ?_
                obtain ⟨f1_, ef1_⟩ : ∃ f1_, f = f1_ + 1 := ⟨f - 1, by have := hi_a.1; omega⟩
                have nx_ := g_nx q hq16 a hi_a.2.1
                have st_ := hi_a.2.2.2
                rw [ef1_, lpG_s a0_] at st_
                exact ih_a (((a - 1) &&& q), (f - 1), mo, (ua σ 0 (upd (upd (upd (upd (σ 0) 9 (z57 0 9)) 10 (z57 0 10)) 11 (z57 0 11)) 12 (z57 0 12)))) (show ((a - 1) &&& q) ≤ (f - 1) ∧ ((a - 1) &&& q) < 16 ∧ ((a - 1) &&& q) &&& q = ((a - 1) &&& q) ∧ lpG (zG β e) (grp (zG β e) 2) q (f - 1) ((a - 1) &&& q) mo = grp (zG β e) 3 q from ⟨by have := nx_.2.2; have := hi_a.1; omega, nx_.1, nx_.2.1, by rw [ef1_, Nat.add_sub_cancel]; rw [← st_]; congr 1; first | exact (cI_t (Or.inl (z_of (by have := Nat.and_le_left (n := a) (m := lst q); omega) c26))).symm | exact (cI_t (Or.inr (Or.inl ((nI_eq (by omega) (by omega)).mp (c32.trans hq))))).symm | exact (cI_t (Or.inr (Or.inr c42))).symm | exact ((cI_f (fun z => z.elim n26_ (fun z => z.elim (fun z => c32 (by rw [z, hq])) (fun z => z c42)))).trans (if_pos (Int32.not_le.mp c67))).symm | exact ((cI_f (fun z => z.elim n26_ (fun z => z.elim (fun z => c32 (by rw [z, hq])) (fun z => z c42)))).trans (if_neg (Int32.not_lt.mpr c67))).symm⟩) (show (f - 1) < f from (by have := hi_a.1; omega)) _ _ _ (hH.eq rfl) (lv_eq (lv_sub hl [3, 4, 5, 6, 1, 0] rfl) (lc_s (lc_s (lc_s (lc_s (lc_s (lc_i (by rw [hq, g_pred a0_, nI_and] : (((nI a) - 1) &&& set) = (nI ((a - 1) &&& q))) rfl)))))))
              · refine lv_iload hx hb dX12_groups_70 (lv_at hl 0 rfl) ?_
                refine lv_goto (tgt := 77) hx hb dX12_groups_72 (by decide) ?_
                refine lv_istore (lv' := [(4, .int (1 + (grp (zG β e) 2 (q &&& (15 ^^^ a))))), (6, .int (1 + (grp (zG β e) 2 (q &&& (15 ^^^ a))))), (0, .ref (ad 0)), (1, .int set), (2, .int e), (3, .int (nI (lst q))), (5, .int (nI a))]) hx hb dX12_groups_77 hl (by decide) rfl (fun ls hl => ?_)
                refine lv_iload hx hb dX12_groups_79 (lv_at hl 6 rfl) ?_
                refine lv_iconst (v := 1) hx hb dX12_groups_81 (by decide) ?_
                refine lv_isub hx hb dX12_groups_82 ?_
                refine lv_iload_n hx hb dX12_groups_83 rfl (lv_at hl 3 rfl) ?_
                refine lv_iand hx hb dX12_groups_84 ?_
                refine lv_istore (lv' := [(5, .int (((nI a) - 1) &&& set)), (4, .int (1 + (grp (zG β e) 2 (q &&& (15 ^^^ a))))), (6, .int (1 + (grp (zG β e) 2 (q &&& (15 ^^^ a))))), (0, .ref (ad 0)), (1, .int set), (2, .int e), (3, .int (nI (lst q)))]) hx hb dX12_groups_85 hl (by decide) rfl (fun ls hl => ?_)
                refine lv_goto (tgt := 17) hx hb dX12_groups_87 (by decide) ?_
                obtain ⟨f1_, ef1_⟩ : ∃ f1_, f = f1_ + 1 := ⟨f - 1, by have := hi_a.1; omega⟩
                have nx_ := g_nx q hq16 a hi_a.2.1
                have st_ := hi_a.2.2.2
                rw [ef1_, lpG_s a0_] at st_
                exact ih_a (((a - 1) &&& q), (f - 1), (1 + (grp (zG β e) 2 (q &&& (15 ^^^ a)))), (ua σ 0 (upd (upd (upd (upd (σ 0) 9 (z57 0 9)) 10 (z57 0 10)) 11 (z57 0 11)) 12 (z57 0 12)))) (show ((a - 1) &&& q) ≤ (f - 1) ∧ ((a - 1) &&& q) < 16 ∧ ((a - 1) &&& q) &&& q = ((a - 1) &&& q) ∧ lpG (zG β e) (grp (zG β e) 2) q (f - 1) ((a - 1) &&& q) (1 + (grp (zG β e) 2 (q &&& (15 ^^^ a)))) = grp (zG β e) 3 q from ⟨by have := nx_.2.2; have := hi_a.1; omega, nx_.1, nx_.2.1, by rw [ef1_, Nat.add_sub_cancel]; rw [← st_]; congr 1; first | exact (cI_t (Or.inl (z_of (by have := Nat.and_le_left (n := a) (m := lst q); omega) c26))).symm | exact (cI_t (Or.inr (Or.inl ((nI_eq (by omega) (by omega)).mp (c32.trans hq))))).symm | exact (cI_t (Or.inr (Or.inr c42))).symm | exact ((cI_f (fun z => z.elim n26_ (fun z => z.elim (fun z => c32 (by rw [z, hq])) (fun z => z c42)))).trans (if_pos (Int32.not_le.mp c67))).symm | exact ((cI_f (fun z => z.elim n26_ (fun z => z.elim (fun z => c32 (by rw [z, hq])) (fun z => z c42)))).trans (if_neg (Int32.not_lt.mpr c67))).symm⟩) (show (f - 1) < f from (by have := hi_a.1; omega)) _ _ _ (hH.eq rfl) (lv_eq (lv_sub hl [3, 4, 5, 6, 1, 0] rfl) (lc_s (lc_s (lc_s (lc_s (lc_s (lc_i (by rw [hq, g_pred a0_, nI_and] : (((nI a) - 1) &&& set) = (nI ((a - 1) &&& q))) rfl)))))))
            · refine lv_goto (tgt := 79) hx hb dX12_groups_45 (by decide) ?_
              refine lv_iload hx hb dX12_groups_79 (lv_at hl 5 rfl) ?_
              refine lv_iconst (v := 1) hx hb dX12_groups_81 (by decide) ?_
              refine lv_isub hx hb dX12_groups_82 ?_
              refine lv_iload_n hx hb dX12_groups_83 rfl (lv_at hl 1 rfl) ?_
              refine lv_iand hx hb dX12_groups_84 ?_
              refine lv_istore (lv' := [(5, .int (((nI a) - 1) &&& set)), (0, .ref (ad 0)), (1, .int set), (2, .int e), (3, .int (nI (lst q))), (4, .int mo)]) hx hb dX12_groups_85 hl (by decide) rfl (fun ls hl => ?_)
              refine lv_goto (tgt := 17) hx hb dX12_groups_87 (by decide) ?_
              obtain ⟨f1_, ef1_⟩ : ∃ f1_, f = f1_ + 1 := ⟨f - 1, by have := hi_a.1; omega⟩
              have nx_ := g_nx q hq16 a hi_a.2.1
              have st_ := hi_a.2.2.2
              rw [ef1_, lpG_s a0_] at st_
              exact ih_a (((a - 1) &&& q), (f - 1), mo, (ua σ 0 (upd (upd (upd (upd (σ 0) 9 (z39 0 9)) 10 (z39 0 10)) 11 (z39 0 11)) 12 (z39 0 12)))) (show ((a - 1) &&& q) ≤ (f - 1) ∧ ((a - 1) &&& q) < 16 ∧ ((a - 1) &&& q) &&& q = ((a - 1) &&& q) ∧ lpG (zG β e) (grp (zG β e) 2) q (f - 1) ((a - 1) &&& q) mo = grp (zG β e) 3 q from ⟨by have := nx_.2.2; have := hi_a.1; omega, nx_.1, nx_.2.1, by rw [ef1_, Nat.add_sub_cancel]; rw [← st_]; congr 1; first | exact (cI_t (Or.inl (z_of (by have := Nat.and_le_left (n := a) (m := lst q); omega) c26))).symm | exact (cI_t (Or.inr (Or.inl ((nI_eq (by omega) (by omega)).mp (c32.trans hq))))).symm | exact (cI_t (Or.inr (Or.inr c42))).symm | exact ((cI_f (fun z => z.elim n26_ (fun z => z.elim (fun z => c32 (by rw [z, hq])) (fun z => z c42)))).trans (if_pos (Int32.not_le.mp c67))).symm | exact ((cI_f (fun z => z.elim n26_ (fun z => z.elim (fun z => c32 (by rw [z, hq])) (fun z => z c42)))).trans (if_neg (Int32.not_lt.mpr c67))).symm⟩) (show (f - 1) < f from (by have := hi_a.1; omega)) _ _ _ (hH.eq rfl) (lv_eq (lv_sub hl [1, 2, 3, 4, 5, 0] rfl) (lc_s (lc_s (lc_s (lc_s (lc_s (lc_i (by rw [hq, g_pred a0_, nI_and] : (((nI a) - 1) &&& set) = (nI ((a - 1) &&& q))) rfl)))))))
    · exact hH.eq rfl
    · exact lv_eq (lv_sub hl [3, 4, 5, 2, 1, 0] rfl) (lc_s (lc_s (lc_s (lc_s (lc_s (lc_i (by exact hq : set = (nI q)) rfl))))))
  · refine lv_iconst (v := 0) hx hb dX12_groups_4 (by decide) ?_
    exact x_iretE σ hC hr hkL hH (by first | (rw [popc4_0 q hq16 hpc]; rfl) | (rw [(nI_eq (a := q) (b := 0) (by omega) (by omega)).mp (hq.symm.trans (Classical.not_not.mp c1))]; rfl) | (rw [(nI_eq (a := q) (b := 0) (by omega) (by omega)).mp (hq.symm.trans c1)]; rfl)) rfl dX12_groups_5
set_option maxHeartbeats 4000000 in
set_option maxRecDepth 100000 in
theorem k_X12_groups_4 (l : Launch) (G : GP) (ad : Nat → Nat) (σ : Nat → Nat → Int32) (set : Int32) (e : Int32) (β : Bk) (q : Nat) (hR : RB (σ 2) β) (hq : set = nI q) (hq16 : q < 16) (hpc : popc 4 q < 4) : CTE l G yX12_groups cX12_groups 7 (some .int) 8 [.ref (ad 0), .int set, .int e] (WM G ad σ) (some (.int (grp (zG β e) 4 q))) (fun z => WM G ad (ua σ 0 (upd (upd (upd (upd (σ 0) 9 (z 0 9)) 10 (z 0 10)) 11 (z 0 11)) 12 (z 0 12)))) := by
  refine x_methE "BetsOnBetsModel" rfl (by decide +kernel) (fun z => by rfl) (Nat.le_of_ble_eq_true rfl) ?_
  intro pP eE sS mM args below meth cC A ls hC hr hkL hK hZ hA hH hl
  have hx := hC.1
  have hb := hC.2.1
  have hl : lv_has ls 7 [(0, .ref (ad 0)), (1, .int set), (2, .int e)] := hl
  have hh4 := hR.2.2.1
  have hk6 := hR.2.2.2.1
  have pwh := pw4 hh4
  have pwk := pw6 hk6
  refine lv_iload_n hx hb dX12_groups_0 rfl (lv_at hl 1 rfl) ?_
  refine lv_if_ne (tgt := 6) hx hb dX12_groups_1 (by decide) (fun c1 => ?_) (fun c1 => ?_)
  · refine lv_iload_n hx hb dX12_groups_6 rfl (lv_at hl 1 rfl) ?_
    skip
    refine lv_iload_n hx hb dX12_groups_7 rfl (lv_at hl 1 rfl) ?_
    refine lv_ineg hx hb dX12_groups_8 ?_
    refine lv_iand hx hb dX12_groups_9 ?_
    refine x_topE (y := (nI (lst q))) (by rw [hq]; exact g_lst q hq16) ?_
    refine lv_istore_n (lv' := [(3, .int (nI (lst q))), (0, .ref (ad 0)), (1, .int set), (2, .int e)]) hx hb dX12_groups_10 rfl hl (by decide) rfl (fun ls hl => ?_)
    refine lv_iconst (v := 1) hx hb dX12_groups_11 (by decide) ?_
    refine lv_istore (lv' := [(4, .int 1), (3, .int (nI (lst q))), (0, .ref (ad 0)), (1, .int set), (2, .int e)]) hx hb dX12_groups_12 hl (by decide) rfl (fun ls hl => ?_)
    have q0_ : ¬ q = 0 := fun z => c1 (by rw [hq, z]; rfl)
    refine lv_iload_n hx hb dX12_groups_14 rfl (lv_at hl 3 rfl) ?_
    refine lv_istore (lv' := [(5, .int set), (4, .int 1), (3, .int (nI (lst q))), (0, .ref (ad 0)), (1, .int set), (2, .int e)]) hx hb dX12_groups_15 hl (by decide) rfl (fun ls hl => ?_)
    refine x_loop (G := G) (A := A) (H0 := sS.heap) (nL := 7) (α := Nat × Nat × Int32 × (Nat → Nat → Int32)) (fun q_ => q_.2.1) (fun q_ => q_.1 ≤ q_.2.1 ∧ q_.1 < 16 ∧ q_.1 &&& q = q_.1 ∧ lpG (zG β e) (grp (zG β e) 3) q q_.2.1 q_.1 q_.2.2.1 = grp (zG β e) 4 q) (fun q_ => WM G ad (ua σ 0 (upd (upd (upd (upd (σ 0) 9 (q_.2.2.2 0 9)) 10 (q_.2.2.2 0 10)) 11 (q_.2.2.2 0 11)) 12 (q_.2.2.2 0 12)))) (fun q_ => [(0, .ref (ad 0)), (1, .int set), (2, .int e), (3, .int (nI (lst q))), (4, .int q_.2.2.1), (5, .int (nI q_.1))]) ?_ (q, 16, 1, σ) (show q ≤ 16 ∧ q < 16 ∧ q &&& q = q ∧ lpG (zG β e) (grp (zG β e) 3) q 16 q 1 = grp (zG β e) 4 q from ⟨by omega, hq16, Nat.and_self q, (if_neg q0_).symm⟩) ?_ ?_
    · rintro ⟨a, f, mo, z_a⟩ hi_a ih_a H locs ls hH hl
      replace hi_a : a ≤ f ∧ a < 16 ∧ a &&& q = a ∧ lpG (zG β e) (grp (zG β e) 3) q f a mo = grp (zG β e) 4 q := hi_a
      replace hH : Hx G A (WM G ad (ua σ 0 (upd (upd (upd (upd (σ 0) 9 (z_a 0 9)) 10 (z_a 0 10)) 11 (z_a 0 11)) 12 (z_a 0 12)))) sS.heap H locs := hH
      replace hl : lv_has ls 7 [(0, .ref (ad 0)), (1, .int set), (2, .int e), (3, .int (nI (lst q))), (4, .int mo), (5, .int (nI a))] := hl
      have hi16_ := hi_a.2.1
      refine lv_iload hx hb dX12_groups_17 (lv_at hl 5 rfl) ?_
      refine lv_if_le (tgt := 90) hx hb dX12_groups_19 (by decide) (fun c19 => ?_) (fun c19 => ?_)
      · refine lv_iload hx hb dX12_groups_90 (lv_at hl 4 rfl) ?_
        exact x_iretE (ua σ 0 (upd (upd (upd (upd (σ 0) 9 (z_a 0 9)) 10 (z_a 0 10)) 11 (z_a 0 11)) 12 (z_a 0 12))) hC hr hkL hH (by have h4_ := hi_a.2.2.2; rw [show a = 0 from (nI_eq (a := a) (b := 0) (by omega) (by omega)).mp (Int32.le_antisymm c19 (nI_pos' (by omega))), lpG_0] at h4_; exact h4_.symm) rfl dX12_groups_92
      · have a0_ : ¬ a = 0 := fun z => by subst z; exact absurd c19 (by decide)
        refine lv_iload hx hb dX12_groups_22 (lv_at hl 5 rfl) ?_
        refine lv_iload_n hx hb dX12_groups_24 rfl (lv_at hl 3 rfl) ?_
        refine lv_iand hx hb dX12_groups_25 ?_
        refine x_topE (y := (nI (a &&& lst q))) (nI_and _ _) ?_
        refine lv_if_eq (tgt := 79) hx hb dX12_groups_26 (by decide) (fun c26 => ?_) (fun c26 => ?_)
        · refine lv_iload hx hb dX12_groups_79 (lv_at hl 5 rfl) ?_
          refine lv_iconst (v := 1) hx hb dX12_groups_81 (by decide) ?_
          refine lv_isub hx hb dX12_groups_82 ?_
          refine lv_iload_n hx hb dX12_groups_83 rfl (lv_at hl 1 rfl) ?_
          refine lv_iand hx hb dX12_groups_84 ?_
          refine lv_istore (lv' := [(5, .int (((nI a) - 1) &&& set)), (0, .ref (ad 0)), (1, .int set), (2, .int e), (3, .int (nI (lst q))), (4, .int mo)]) hx hb dX12_groups_85 hl (by decide) rfl (fun ls hl => ?_)
          refine lv_goto (tgt := 17) hx hb dX12_groups_87 (by decide) ?_
          obtain ⟨f1_, ef1_⟩ : ∃ f1_, f = f1_ + 1 := ⟨f - 1, by have := hi_a.1; omega⟩
          have nx_ := g_nx q hq16 a hi_a.2.1
          have st_ := hi_a.2.2.2
          rw [ef1_, lpG_s a0_] at st_
          exact ih_a (((a - 1) &&& q), (f - 1), mo, (ua σ 0 (upd (upd (upd (upd (σ 0) 9 (z_a 0 9)) 10 (z_a 0 10)) 11 (z_a 0 11)) 12 (z_a 0 12)))) (show ((a - 1) &&& q) ≤ (f - 1) ∧ ((a - 1) &&& q) < 16 ∧ ((a - 1) &&& q) &&& q = ((a - 1) &&& q) ∧ lpG (zG β e) (grp (zG β e) 3) q (f - 1) ((a - 1) &&& q) mo = grp (zG β e) 4 q from ⟨by have := nx_.2.2; have := hi_a.1; omega, nx_.1, nx_.2.1, by rw [ef1_, Nat.add_sub_cancel]; rw [← st_]; congr 1; first | exact (cI_t (Or.inl (z_of (by have := Nat.and_le_left (n := a) (m := lst q); omega) c26))).symm | exact (cI_t (Or.inr (Or.inl ((nI_eq (by omega) (by omega)).mp (c32.trans hq))))).symm | exact (cI_t (Or.inr (Or.inr c42))).symm | exact ((cI_f (fun z => z.elim n26_ (fun z => z.elim (fun z => c32 (by rw [z, hq])) (fun z => z c42)))).trans (if_pos (Int32.not_le.mp c67))).symm | exact ((cI_f (fun z => z.elim n26_ (fun z => z.elim (fun z => c32 (by rw [z, hq])) (fun z => z c42)))).trans (if_neg (Int32.not_lt.mpr c67))).symm⟩) (show (f - 1) < f from (by have := hi_a.1; omega)) _ _ _ (hH.eq rfl) (lv_eq (lv_sub hl [1, 2, 3, 4, 5, 0] rfl) (lc_s (lc_s (lc_s (lc_s (lc_s (lc_i (by rw [hq, g_pred a0_, nI_and] : (((nI a) - 1) &&& set) = (nI ((a - 1) &&& q))) rfl)))))))
        · have n26_ : ¬ a &&& lst q = 0 := fun z => c26 (by rw [z]; rfl)
          refine lv_iload hx hb dX12_groups_29 (lv_at hl 5 rfl) ?_
          refine lv_iload_n hx hb dX12_groups_31 rfl (lv_at hl 1 rfl) ?_
          refine lv_icmp_eq (tgt := 79) hx hb dX12_groups_32 (by decide) (fun c32 => ?_) (fun c32 => ?_)
          · refine lv_iload hx hb dX12_groups_79 (lv_at hl 5 rfl) ?_
            refine lv_iconst (v := 1) hx hb dX12_groups_81 (by decide) ?_
            refine lv_isub hx hb dX12_groups_82 ?_
            refine lv_iload_n hx hb dX12_groups_83 rfl (lv_at hl 1 rfl) ?_
            refine lv_iand hx hb dX12_groups_84 ?_
            refine lv_istore (lv' := [(5, .int (((nI a) - 1) &&& set)), (0, .ref (ad 0)), (1, .int set), (2, .int e), (3, .int (nI (lst q))), (4, .int mo)]) hx hb dX12_groups_85 hl (by decide) rfl (fun ls hl => ?_)
            refine lv_goto (tgt := 17) hx hb dX12_groups_87 (by decide) ?_
            obtain ⟨f1_, ef1_⟩ : ∃ f1_, f = f1_ + 1 := ⟨f - 1, by have := hi_a.1; omega⟩
            have nx_ := g_nx q hq16 a hi_a.2.1
            have st_ := hi_a.2.2.2
            rw [ef1_, lpG_s a0_] at st_
            exact ih_a (((a - 1) &&& q), (f - 1), mo, (ua σ 0 (upd (upd (upd (upd (σ 0) 9 (z_a 0 9)) 10 (z_a 0 10)) 11 (z_a 0 11)) 12 (z_a 0 12)))) (show ((a - 1) &&& q) ≤ (f - 1) ∧ ((a - 1) &&& q) < 16 ∧ ((a - 1) &&& q) &&& q = ((a - 1) &&& q) ∧ lpG (zG β e) (grp (zG β e) 3) q (f - 1) ((a - 1) &&& q) mo = grp (zG β e) 4 q from ⟨by have := nx_.2.2; have := hi_a.1; omega, nx_.1, nx_.2.1, by rw [ef1_, Nat.add_sub_cancel]; rw [← st_]; congr 1; first | exact (cI_t (Or.inl (z_of (by have := Nat.and_le_left (n := a) (m := lst q); omega) c26))).symm | exact (cI_t (Or.inr (Or.inl ((nI_eq (by omega) (by omega)).mp (c32.trans hq))))).symm | exact (cI_t (Or.inr (Or.inr c42))).symm | exact ((cI_f (fun z => z.elim n26_ (fun z => z.elim (fun z => c32 (by rw [z, hq])) (fun z => z c42)))).trans (if_pos (Int32.not_le.mp c67))).symm | exact ((cI_f (fun z => z.elim n26_ (fun z => z.elim (fun z => c32 (by rw [z, hq])) (fun z => z c42)))).trans (if_neg (Int32.not_lt.mpr c67))).symm⟩) (show (f - 1) < f from (by have := hi_a.1; omega)) _ _ _ (hH.eq rfl) (lv_eq (lv_sub hl [1, 2, 3, 4, 5, 0] rfl) (lc_s (lc_s (lc_s (lc_s (lc_s (lc_i (by rw [hq, g_pred a0_, nI_and] : (((nI a) - 1) &&& set) = (nI ((a - 1) &&& q))) rfl)))))))
          · refine lv_aload_n hx hb dX12_groups_35 rfl (lv_at hl 0 rfl) ?_
            refine lv_iload hx hb dX12_groups_36 (lv_at hl 5 rfl) ?_
            refine lv_iload_n hx hb dX12_groups_38 rfl (lv_at hl 2 rfl) ?_
            refine x_callVAE (wg := fun z39 => WM G ad (ua σ 0 (upd (upd (upd (upd (σ 0) 9 (z39 0 9)) 10 (z39 0 10)) 11 (z39 0 11)) 12 (z39 0 12)))) (As := [.int (nI a), .int e]) (rest := []) (st' := [.int (sumA β (nI a) e)]) hC hK hZ hA hl.1 hH (k_X12_sumOf l G ad (ua σ 0 (upd (upd (upd (upd (σ 0) 9 (z_a 0 9)) 10 (z_a 0 10)) 11 (z_a 0 11)) 12 (z_a 0 12))) (nI a) e β hR) lk_X12_158 rfl 0 11 rfl rfl rfl ⟨Nat.le_of_ble_eq_true rfl, Nat.le_of_ble_eq_true rfl⟩ ⟨Nat.le_refl _, Nat.le_refl _⟩ (Nat.le_of_ble_eq_true rfl) rfl dX12_groups_39 (fun z39 H locs hH => ?_)
            refine x_topE (y := (sumA β (nI a) e)) rfl ?_
            refine lv_if_eq (tgt := 48) hx hb dX12_groups_42 (by decide) (fun c42 => ?_) (fun c42 => ?_)
            · refine lv_iconst (v := 1) hx hb dX12_groups_48 (by decide) ?_
              refine lv_aload_n hx hb dX12_groups_49 rfl (lv_at hl 0 rfl) ?_
              refine lv_iload_n hx hb dX12_groups_50 rfl (lv_at hl 1 rfl) ?_
              refine lv_iload hx hb dX12_groups_51 (lv_at hl 5 rfl) ?_
              refine lv_iconst (v := (-1)) hx hb dX12_groups_53 (by decide) ?_
              refine lv_ixor hx hb dX12_groups_54 ?_
              refine lv_iand hx hb dX12_groups_55 ?_
              refine lv_iload_n hx hb dX12_groups_56 rfl (lv_at hl 2 rfl) ?_
              refine x_callVAE (wg := fun z57 => WM G ad (ua σ 0 (upd (upd (upd (upd (σ 0) 9 (z57 0 9)) 10 (z57 0 10)) 11 (z57 0 11)) 12 (z57 0 12)))) (As := [.int (set &&& ((nI a) ^^^ (-1))), .int e]) (rest := [.int 1]) (st' := [.int (grp (zG β e) 3 (q &&& (15 ^^^ a))), .int 1]) hC hK hZ hA hl.1 hH (k_X12_groups_3 l G ad (ua σ 0 (upd (upd (upd (upd (σ 0) 9 (z39 0 9)) 10 (z39 0 10)) 11 (z39 0 11)) 12 (z39 0 12))) (set &&& ((nI a) ^^^ (-1))) e β (q &&& (15 ^^^ a)) hR (by rw [hq]; exact g_sub q hq16 a hi_a.2.1) (g_sub16 q hq16 a hi_a.2.1) (Nat.lt_of_lt_of_le (g_pc q hq16 a hi_a.2.1 hi_a.2.2.1 n26_) (by omega))) lk_X12_161 rfl 0 11 rfl rfl rfl ⟨Nat.le_of_ble_eq_true rfl, Nat.le_of_ble_eq_true rfl⟩ ⟨Nat.le_refl _, Nat.le_refl _⟩ (Nat.le_of_ble_eq_true rfl) rfl dX12_groups_57 (fun z57 H locs hH => ?_)
              refine lv_iadd hx hb dX12_groups_60 ?_
              refine lv_istore (lv' := [(6, .int (1 + (grp (zG β e) 3 (q &&& (15 ^^^ a))))), (0, .ref (ad 0)), (1, .int set), (2, .int e), (3, .int (nI (lst q))), (4, .int mo), (5, .int (nI a))]) hx hb dX12_groups_61 hl (by decide) rfl (fun ls hl => ?_)
              refine lv_iload hx hb dX12_groups_63 (lv_at hl 0 rfl) ?_
              refine lv_iload hx hb dX12_groups_65 (lv_at hl 5 rfl) ?_
              refine lv_icmp_le (tgt := 75) hx hb dX12_groups_67 (by decide) (fun c67 => ?_) (fun c67 => ?_)
              · refine lv_iload hx hb dX12_groups_75 (lv_at hl 5 rfl) ?_
                refine lv_istore (lv' := [(4, .int mo), (6, .int (1 + (grp (zG β e) 3 (q &&& (15 ^^^ a))))), (0, .ref (ad 0)), (1, .int set), (2, .int e), (3, .int (nI (lst q))), (5, .int (nI a))]) hx hb dX12_groups_77 hl (by decide) rfl (fun ls hl => ?_)
                refine lv_iload hx hb dX12_groups_79 (lv_at hl 6 rfl) ?_
                refine lv_iconst (v := 1) hx hb dX12_groups_81 (by decide) ?_
                refine lv_isub hx hb dX12_groups_82 ?_
                refine lv_iload_n hx hb dX12_groups_83 rfl (lv_at hl 3 rfl) ?_
                refine lv_iand hx hb dX12_groups_84 ?_
                refine lv_istore (lv' := [(5, .int (((nI a) - 1) &&& set)), (4, .int mo), (6, .int (1 + (grp (zG β e) 3 (q &&& (15 ^^^ a))))), (0, .ref (ad 0)), (1, .int set), (2, .int e), (3, .int (nI (lst q)))]) hx hb dX12_groups_85 hl (by decide) rfl (fun ls hl => ?_)
                refine lv_goto (tgt := 17) hx hb dX12_groups_87 (by decide) ?_
                obtain ⟨f1_, ef1_⟩ : ∃ f1_, f = f1_ + 1 := ⟨f - 1, by have := hi_a.1; omega⟩
                have nx_ := g_nx q hq16 a hi_a.2.1
                have st_ := hi_a.2.2.2
                rw [ef1_, lpG_s a0_] at st_
                exact ih_a (((a - 1) &&& q), (f - 1), mo, (ua σ 0 (upd (upd (upd (upd (σ 0) 9 (z57 0 9)) 10 (z57 0 10)) 11 (z57 0 11)) 12 (z57 0 12)))) (show ((a - 1) &&& q) ≤ (f - 1) ∧ ((a - 1) &&& q) < 16 ∧ ((a - 1) &&& q) &&& q = ((a - 1) &&& q) ∧ lpG (zG β e) (grp (zG β e) 3) q (f - 1) ((a - 1) &&& q) mo = grp (zG β e) 4 q from ⟨by have := nx_.2.2; have := hi_a.1; omega, nx_.1, nx_.2.1, by rw [ef1_, Nat.add_sub_cancel]; rw [← st_]; congr 1; first | exact (cI_t (Or.inl (z_of (by have := Nat.and_le_left (n := a) (m := lst q); omega) c26))).symm | exact (cI_t (Or.inr (Or.inl ((nI_eq (by omega) (by omega)).mp (c32.trans hq))))).symm | exact (cI_t (Or.inr (Or.inr c42))).symm | exact ((cI_f (fun z => z.elim n26_ (fun z => z.elim (fun z => c32 (by rw [z, hq])) (fun z => z c42)))).trans (if_pos (Int32.not_le.mp c67))).symm | exact ((cI_f (fun z => z.elim n26_ (fun z => z.elim (fun z => c32 (by rw [z, hq])) (fun z => z c42)))).trans (if_neg (Int32.not_lt.mpr c67))).symm⟩) (show (f - 1) < f from (by have := hi_a.1; omega)) _ _ _ (hH.eq rfl) (lv_eq (lv_sub hl [3, 4, 5, 6, 1, 0] rfl) (lc_s (lc_s (lc_s (lc_s (lc_s (lc_i (by rw [hq, g_pred a0_, nI_and] : (((nI a) - 1) &&& set) = (nI ((a - 1) &&& q))) rfl)))))))
              · refine lv_iload hx hb dX12_groups_70 (lv_at hl 0 rfl) ?_
                refine lv_goto (tgt := 77) hx hb dX12_groups_72 (by decide) ?_
                refine lv_istore (lv' := [(4, .int (1 + (grp (zG β e) 3 (q &&& (15 ^^^ a))))), (6, .int (1 + (grp (zG β e) 3 (q &&& (15 ^^^ a))))), (0, .ref (ad 0)), (1, .int set), (2, .int e), (3, .int (nI (lst q))), (5, .int (nI a))]) hx hb dX12_groups_77 hl (by decide) rfl (fun ls hl => ?_)
                refine lv_iload hx hb dX12_groups_79 (lv_at hl 6 rfl) ?_
                refine lv_iconst (v := 1) hx hb dX12_groups_81 (by decide) ?_
                refine lv_isub hx hb dX12_groups_82 ?_
                refine lv_iload_n hx hb dX12_groups_83 rfl (lv_at hl 3 rfl) ?_
                refine lv_iand hx hb dX12_groups_84 ?_
                refine lv_istore (lv' := [(5, .int (((nI a) - 1) &&& set)), (4, .int (1 + (grp (zG β e) 3 (q &&& (15 ^^^ a))))), (6, .int (1 + (grp (zG β e) 3 (q &&& (15 ^^^ a))))), (0, .ref (ad 0)), (1, .int set), (2, .int e), (3, .int (nI (lst q)))]) hx hb dX12_groups_85 hl (by decide) rfl (fun ls hl => ?_)
                refine lv_goto (tgt := 17) hx hb dX12_groups_87 (by decide) ?_
                obtain ⟨f1_, ef1_⟩ : ∃ f1_, f = f1_ + 1 := ⟨f - 1, by have := hi_a.1; omega⟩
                have nx_ := g_nx q hq16 a hi_a.2.1
                have st_ := hi_a.2.2.2
                rw [ef1_, lpG_s a0_] at st_
                exact ih_a (((a - 1) &&& q), (f - 1), (1 + (grp (zG β e) 3 (q &&& (15 ^^^ a)))), (ua σ 0 (upd (upd (upd (upd (σ 0) 9 (z57 0 9)) 10 (z57 0 10)) 11 (z57 0 11)) 12 (z57 0 12)))) (show ((a - 1) &&& q) ≤ (f - 1) ∧ ((a - 1) &&& q) < 16 ∧ ((a - 1) &&& q) &&& q = ((a - 1) &&& q) ∧ lpG (zG β e) (grp (zG β e) 3) q (f - 1) ((a - 1) &&& q) (1 + (grp (zG β e) 3 (q &&& (15 ^^^ a)))) = grp (zG β e) 4 q from ⟨by have := nx_.2.2; have := hi_a.1; omega, nx_.1, nx_.2.1, by rw [ef1_, Nat.add_sub_cancel]; rw [← st_]; congr 1; first | exact (cI_t (Or.inl (z_of (by have := Nat.and_le_left (n := a) (m := lst q); omega) c26))).symm | exact (cI_t (Or.inr (Or.inl ((nI_eq (by omega) (by omega)).mp (c32.trans hq))))).symm | exact (cI_t (Or.inr (Or.inr c42))).symm | exact ((cI_f (fun z => z.elim n26_ (fun z => z.elim (fun z => c32 (by rw [z, hq])) (fun z => z c42)))).trans (if_pos (Int32.not_le.mp c67))).symm | exact ((cI_f (fun z => z.elim n26_ (fun z => z.elim (fun z => c32 (by rw [z, hq])) (fun z => z c42)))).trans (if_neg (Int32.not_lt.mpr c67))).symm⟩) (show (f - 1) < f from (by have := hi_a.1; omega)) _ _ _ (hH.eq rfl) (lv_eq (lv_sub hl [3, 4, 5, 6, 1, 0] rfl) (lc_s (lc_s (lc_s (lc_s (lc_s (lc_i (by rw [hq, g_pred a0_, nI_and] : (((nI a) - 1) &&& set) = (nI ((a - 1) &&& q))) rfl)))))))
            · refine lv_goto (tgt := 79) hx hb dX12_groups_45 (by decide) ?_
              refine lv_iload hx hb dX12_groups_79 (lv_at hl 5 rfl) ?_
              refine lv_iconst (v := 1) hx hb dX12_groups_81 (by decide) ?_
              refine lv_isub hx hb dX12_groups_82 ?_
              refine lv_iload_n hx hb dX12_groups_83 rfl (lv_at hl 1 rfl) ?_
              refine lv_iand hx hb dX12_groups_84 ?_
              refine lv_istore (lv' := [(5, .int (((nI a) - 1) &&& set)), (0, .ref (ad 0)), (1, .int set), (2, .int e), (3, .int (nI (lst q))), (4, .int mo)]) hx hb dX12_groups_85 hl (by decide) rfl (fun ls hl => ?_)
              refine lv_goto (tgt := 17) hx hb dX12_groups_87 (by decide) ?_
              obtain ⟨f1_, ef1_⟩ : ∃ f1_, f = f1_ + 1 := ⟨f - 1, by have := hi_a.1; omega⟩
              have nx_ := g_nx q hq16 a hi_a.2.1
              have st_ := hi_a.2.2.2
              rw [ef1_, lpG_s a0_] at st_
              exact ih_a (((a - 1) &&& q), (f - 1), mo, (ua σ 0 (upd (upd (upd (upd (σ 0) 9 (z39 0 9)) 10 (z39 0 10)) 11 (z39 0 11)) 12 (z39 0 12)))) (show ((a - 1) &&& q) ≤ (f - 1) ∧ ((a - 1) &&& q) < 16 ∧ ((a - 1) &&& q) &&& q = ((a - 1) &&& q) ∧ lpG (zG β e) (grp (zG β e) 3) q (f - 1) ((a - 1) &&& q) mo = grp (zG β e) 4 q from ⟨by have := nx_.2.2; have := hi_a.1; omega, nx_.1, nx_.2.1, by rw [ef1_, Nat.add_sub_cancel]; rw [← st_]; congr 1; first | exact (cI_t (Or.inl (z_of (by have := Nat.and_le_left (n := a) (m := lst q); omega) c26))).symm | exact (cI_t (Or.inr (Or.inl ((nI_eq (by omega) (by omega)).mp (c32.trans hq))))).symm | exact (cI_t (Or.inr (Or.inr c42))).symm | exact ((cI_f (fun z => z.elim n26_ (fun z => z.elim (fun z => c32 (by rw [z, hq])) (fun z => z c42)))).trans (if_pos (Int32.not_le.mp c67))).symm | exact ((cI_f (fun z => z.elim n26_ (fun z => z.elim (fun z => c32 (by rw [z, hq])) (fun z => z c42)))).trans (if_neg (Int32.not_lt.mpr c67))).symm⟩) (show (f - 1) < f from (by have := hi_a.1; omega)) _ _ _ (hH.eq rfl) (lv_eq (lv_sub hl [1, 2, 3, 4, 5, 0] rfl) (lc_s (lc_s (lc_s (lc_s (lc_s (lc_i (by rw [hq, g_pred a0_, nI_and] : (((nI a) - 1) &&& set) = (nI ((a - 1) &&& q))) rfl)))))))
    · exact hH.eq rfl
    · exact lv_eq (lv_sub hl [3, 4, 5, 2, 1, 0] rfl) (lc_s (lc_s (lc_s (lc_s (lc_s (lc_i (by exact hq : set = (nI q)) rfl))))))
  · refine lv_iconst (v := 0) hx hb dX12_groups_4 (by decide) ?_
    exact x_iretE σ hC hr hkL hH (by first | (rw [popc4_0 q hq16 hpc]; rfl) | (rw [(nI_eq (a := q) (b := 0) (by omega) (by omega)).mp (hq.symm.trans (Classical.not_not.mp c1))]; rfl) | (rw [(nI_eq (a := q) (b := 0) (by omega) (by omega)).mp (hq.symm.trans c1)]; rfl)) rfl dX12_groups_5
set_option maxHeartbeats 4000000 in
set_option maxRecDepth 100000 in
theorem k_X12_groups_5 (l : Launch) (G : GP) (ad : Nat → Nat) (σ : Nat → Nat → Int32) (set : Int32) (e : Int32) (β : Bk) (q : Nat) (hR : RB (σ 2) β) (hq : set = nI q) (hq16 : q < 16) (hpc : popc 4 q < 5) : CTE l G yX12_groups cX12_groups 7 (some .int) 9 [.ref (ad 0), .int set, .int e] (WM G ad σ) (some (.int (grp (zG β e) 5 q))) (fun z => WM G ad (ua σ 0 (upd (upd (upd (upd (σ 0) 9 (z 0 9)) 10 (z 0 10)) 11 (z 0 11)) 12 (z 0 12)))) := by
  refine x_methE "BetsOnBetsModel" rfl (by decide +kernel) (fun z => by rfl) (Nat.le_of_ble_eq_true rfl) ?_
  intro pP eE sS mM args below meth cC A ls hC hr hkL hK hZ hA hH hl
  have hx := hC.1
  have hb := hC.2.1
  have hl : lv_has ls 7 [(0, .ref (ad 0)), (1, .int set), (2, .int e)] := hl
  have hh4 := hR.2.2.1
  have hk6 := hR.2.2.2.1
  have pwh := pw4 hh4
  have pwk := pw6 hk6
  refine lv_iload_n hx hb dX12_groups_0 rfl (lv_at hl 1 rfl) ?_
  refine lv_if_ne (tgt := 6) hx hb dX12_groups_1 (by decide) (fun c1 => ?_) (fun c1 => ?_)
  · refine lv_iload_n hx hb dX12_groups_6 rfl (lv_at hl 1 rfl) ?_
    skip
    refine lv_iload_n hx hb dX12_groups_7 rfl (lv_at hl 1 rfl) ?_
    refine lv_ineg hx hb dX12_groups_8 ?_
    refine lv_iand hx hb dX12_groups_9 ?_
    refine x_topE (y := (nI (lst q))) (by rw [hq]; exact g_lst q hq16) ?_
    refine lv_istore_n (lv' := [(3, .int (nI (lst q))), (0, .ref (ad 0)), (1, .int set), (2, .int e)]) hx hb dX12_groups_10 rfl hl (by decide) rfl (fun ls hl => ?_)
    refine lv_iconst (v := 1) hx hb dX12_groups_11 (by decide) ?_
    refine lv_istore (lv' := [(4, .int 1), (3, .int (nI (lst q))), (0, .ref (ad 0)), (1, .int set), (2, .int e)]) hx hb dX12_groups_12 hl (by decide) rfl (fun ls hl => ?_)
    have q0_ : ¬ q = 0 := fun z => c1 (by rw [hq, z]; rfl)
    refine lv_iload_n hx hb dX12_groups_14 rfl (lv_at hl 3 rfl) ?_
    refine lv_istore (lv' := [(5, .int set), (4, .int 1), (3, .int (nI (lst q))), (0, .ref (ad 0)), (1, .int set), (2, .int e)]) hx hb dX12_groups_15 hl (by decide) rfl (fun ls hl => ?_)
    refine x_loop (G := G) (A := A) (H0 := sS.heap) (nL := 7) (α := Nat × Nat × Int32 × (Nat → Nat → Int32)) (fun q_ => q_.2.1) (fun q_ => q_.1 ≤ q_.2.1 ∧ q_.1 < 16 ∧ q_.1 &&& q = q_.1 ∧ lpG (zG β e) (grp (zG β e) 4) q q_.2.1 q_.1 q_.2.2.1 = grp (zG β e) 5 q) (fun q_ => WM G ad (ua σ 0 (upd (upd (upd (upd (σ 0) 9 (q_.2.2.2 0 9)) 10 (q_.2.2.2 0 10)) 11 (q_.2.2.2 0 11)) 12 (q_.2.2.2 0 12)))) (fun q_ => [(0, .ref (ad 0)), (1, .int set), (2, .int e), (3, .int (nI (lst q))), (4, .int q_.2.2.1), (5, .int (nI q_.1))]) ?_ (q, 16, 1, σ) (show q ≤ 16 ∧ q < 16 ∧ q &&& q = q ∧ lpG (zG β e) (grp (zG β e) 4) q 16 q 1 = grp (zG β e) 5 q from ⟨by omega, hq16, Nat.and_self q, (if_neg q0_).symm⟩) ?_ ?_
    · rintro ⟨a, f, mo, z_a⟩ hi_a ih_a H locs ls hH hl
      replace hi_a : a ≤ f ∧ a < 16 ∧ a &&& q = a ∧ lpG (zG β e) (grp (zG β e) 4) q f a mo = grp (zG β e) 5 q := hi_a
      replace hH : Hx G A (WM G ad (ua σ 0 (upd (upd (upd (upd (σ 0) 9 (z_a 0 9)) 10 (z_a 0 10)) 11 (z_a 0 11)) 12 (z_a 0 12)))) sS.heap H locs := hH
      replace hl : lv_has ls 7 [(0, .ref (ad 0)), (1, .int set), (2, .int e), (3, .int (nI (lst q))), (4, .int mo), (5, .int (nI a))] := hl
      have hi16_ := hi_a.2.1
      refine lv_iload hx hb dX12_groups_17 (lv_at hl 5 rfl) ?_
      refine lv_if_le (tgt := 90) hx hb dX12_groups_19 (by decide) (fun c19 => ?_) (fun c19 => ?_)
      · refine lv_iload hx hb dX12_groups_90 (lv_at hl 4 rfl) ?_
        exact x_iretE (ua σ 0 (upd (upd (upd (upd (σ 0) 9 (z_a 0 9)) 10 (z_a 0 10)) 11 (z_a 0 11)) 12 (z_a 0 12))) hC hr hkL hH (by have h4_ := hi_a.2.2.2; rw [show a = 0 from (nI_eq (a := a) (b := 0) (by omega) (by omega)).mp (Int32.le_antisymm c19 (nI_pos' (by omega))), lpG_0] at h4_; exact h4_.symm) rfl dX12_groups_92
      · have a0_ : ¬ a = 0 := fun z => by subst z; exact absurd c19 (by decide)
        refine lv_iload hx hb dX12_groups_22 (lv_at hl 5 rfl) ?_
        refine lv_iload_n hx hb dX12_groups_24 rfl (lv_at hl 3 rfl) ?_
        refine lv_iand hx hb dX12_groups_25 ?_
        refine x_topE (y := (nI (a &&& lst q))) (nI_and _ _) ?_
        refine lv_if_eq (tgt := 79) hx hb dX12_groups_26 (by decide) (fun c26 => ?_) (fun c26 => ?_)
        · refine lv_iload hx hb dX12_groups_79 (lv_at hl 5 rfl) ?_
          refine lv_iconst (v := 1) hx hb dX12_groups_81 (by decide) ?_
          refine lv_isub hx hb dX12_groups_82 ?_
          refine lv_iload_n hx hb dX12_groups_83 rfl (lv_at hl 1 rfl) ?_
          refine lv_iand hx hb dX12_groups_84 ?_
          refine lv_istore (lv' := [(5, .int (((nI a) - 1) &&& set)), (0, .ref (ad 0)), (1, .int set), (2, .int e), (3, .int (nI (lst q))), (4, .int mo)]) hx hb dX12_groups_85 hl (by decide) rfl (fun ls hl => ?_)
          refine lv_goto (tgt := 17) hx hb dX12_groups_87 (by decide) ?_
          obtain ⟨f1_, ef1_⟩ : ∃ f1_, f = f1_ + 1 := ⟨f - 1, by have := hi_a.1; omega⟩
          have nx_ := g_nx q hq16 a hi_a.2.1
          have st_ := hi_a.2.2.2
          rw [ef1_, lpG_s a0_] at st_
          exact ih_a (((a - 1) &&& q), (f - 1), mo, (ua σ 0 (upd (upd (upd (upd (σ 0) 9 (z_a 0 9)) 10 (z_a 0 10)) 11 (z_a 0 11)) 12 (z_a 0 12)))) (show ((a - 1) &&& q) ≤ (f - 1) ∧ ((a - 1) &&& q) < 16 ∧ ((a - 1) &&& q) &&& q = ((a - 1) &&& q) ∧ lpG (zG β e) (grp (zG β e) 4) q (f - 1) ((a - 1) &&& q) mo = grp (zG β e) 5 q from ⟨by have := nx_.2.2; have := hi_a.1; omega, nx_.1, nx_.2.1, by rw [ef1_, Nat.add_sub_cancel]; rw [← st_]; congr 1; first | exact (cI_t (Or.inl (z_of (by have := Nat.and_le_left (n := a) (m := lst q); omega) c26))).symm | exact (cI_t (Or.inr (Or.inl ((nI_eq (by omega) (by omega)).mp (c32.trans hq))))).symm | exact (cI_t (Or.inr (Or.inr c42))).symm | exact ((cI_f (fun z => z.elim n26_ (fun z => z.elim (fun z => c32 (by rw [z, hq])) (fun z => z c42)))).trans (if_pos (Int32.not_le.mp c67))).symm | exact ((cI_f (fun z => z.elim n26_ (fun z => z.elim (fun z => c32 (by rw [z, hq])) (fun z => z c42)))).trans (if_neg (Int32.not_lt.mpr c67))).symm⟩) (show (f - 1) < f from (by have := hi_a.1; omega)) _ _ _ (hH.eq rfl) (lv_eq (lv_sub hl [1, 2, 3, 4, 5, 0] rfl) (lc_s (lc_s (lc_s (lc_s (lc_s (lc_i (by rw [hq, g_pred a0_, nI_and] : (((nI a) - 1) &&& set) = (nI ((a - 1) &&& q))) rfl)))))))
        · have n26_ : ¬ a &&& lst q = 0 := fun z => c26 (by rw [z]; rfl)
          refine lv_iload hx hb dX12_groups_29 (lv_at hl 5 rfl) ?_
          refine lv_iload_n hx hb dX12_groups_31 rfl (lv_at hl 1 rfl) ?_
          refine lv_icmp_eq (tgt := 79) hx hb dX12_groups_32 (by decide) (fun c32 => ?_) (fun c32 => ?_)
          · refine lv_iload hx hb dX12_groups_79 (lv_at hl 5 rfl) ?_
            refine lv_iconst (v := 1) hx hb dX12_groups_81 (by decide) ?_
            refine lv_isub hx hb dX12_groups_82 ?_
            refine lv_iload_n hx hb dX12_groups_83 rfl (lv_at hl 1 rfl) ?_
            refine lv_iand hx hb dX12_groups_84 ?_
            refine lv_istore (lv' := [(5, .int (((nI a) - 1) &&& set)), (0, .ref (ad 0)), (1, .int set), (2, .int e), (3, .int (nI (lst q))), (4, .int mo)]) hx hb dX12_groups_85 hl (by decide) rfl (fun ls hl => ?_)
            refine lv_goto (tgt := 17) hx hb dX12_groups_87 (by decide) ?_
            obtain ⟨f1_, ef1_⟩ : ∃ f1_, f = f1_ + 1 := ⟨f - 1, by have := hi_a.1; omega⟩
            have nx_ := g_nx q hq16 a hi_a.2.1
            have st_ := hi_a.2.2.2
            rw [ef1_, lpG_s a0_] at st_
            exact ih_a (((a - 1) &&& q), (f - 1), mo, (ua σ 0 (upd (upd (upd (upd (σ 0) 9 (z_a 0 9)) 10 (z_a 0 10)) 11 (z_a 0 11)) 12 (z_a 0 12)))) (show ((a - 1) &&& q) ≤ (f - 1) ∧ ((a - 1) &&& q) < 16 ∧ ((a - 1) &&& q) &&& q = ((a - 1) &&& q) ∧ lpG (zG β e) (grp (zG β e) 4) q (f - 1) ((a - 1) &&& q) mo = grp (zG β e) 5 q from ⟨by have := nx_.2.2; have := hi_a.1; omega, nx_.1, nx_.2.1, by rw [ef1_, Nat.add_sub_cancel]; rw [← st_]; congr 1; first | exact (cI_t (Or.inl (z_of (by have := Nat.and_le_left (n := a) (m := lst q); omega) c26))).symm | exact (cI_t (Or.inr (Or.inl ((nI_eq (by omega) (by omega)).mp (c32.trans hq))))).symm | exact (cI_t (Or.inr (Or.inr c42))).symm | exact ((cI_f (fun z => z.elim n26_ (fun z => z.elim (fun z => c32 (by rw [z, hq])) (fun z => z c42)))).trans (if_pos (Int32.not_le.mp c67))).symm | exact ((cI_f (fun z => z.elim n26_ (fun z => z.elim (fun z => c32 (by rw [z, hq])) (fun z => z c42)))).trans (if_neg (Int32.not_lt.mpr c67))).symm⟩) (show (f - 1) < f from (by have := hi_a.1; omega)) _ _ _ (hH.eq rfl) (lv_eq (lv_sub hl [1, 2, 3, 4, 5, 0] rfl) (lc_s (lc_s (lc_s (lc_s (lc_s (lc_i (by rw [hq, g_pred a0_, nI_and] : (((nI a) - 1) &&& set) = (nI ((a - 1) &&& q))) rfl)))))))
          · refine lv_aload_n hx hb dX12_groups_35 rfl (lv_at hl 0 rfl) ?_
            refine lv_iload hx hb dX12_groups_36 (lv_at hl 5 rfl) ?_
            refine lv_iload_n hx hb dX12_groups_38 rfl (lv_at hl 2 rfl) ?_
            refine x_callVAE (wg := fun z39 => WM G ad (ua σ 0 (upd (upd (upd (upd (σ 0) 9 (z39 0 9)) 10 (z39 0 10)) 11 (z39 0 11)) 12 (z39 0 12)))) (As := [.int (nI a), .int e]) (rest := []) (st' := [.int (sumA β (nI a) e)]) hC hK hZ hA hl.1 hH (k_X12_sumOf l G ad (ua σ 0 (upd (upd (upd (upd (σ 0) 9 (z_a 0 9)) 10 (z_a 0 10)) 11 (z_a 0 11)) 12 (z_a 0 12))) (nI a) e β hR) lk_X12_158 rfl 0 11 rfl rfl rfl ⟨Nat.le_of_ble_eq_true rfl, Nat.le_of_ble_eq_true rfl⟩ ⟨Nat.le_refl _, Nat.le_refl _⟩ (Nat.le_of_ble_eq_true rfl) rfl dX12_groups_39 (fun z39 H locs hH => ?_)
            refine x_topE (y := (sumA β (nI a) e)) rfl ?_
            refine lv_if_eq (tgt := 48) hx hb dX12_groups_42 (by decide) (fun c42 => ?_) (fun c42 => ?_)
            · refine lv_iconst (v := 1) hx hb dX12_groups_48 (by decide) ?_
              refine lv_aload_n hx hb dX12_groups_49 rfl (lv_at hl 0 rfl) ?_
              refine lv_iload_n hx hb dX12_groups_50 rfl (lv_at hl 1 rfl) ?_
              refine lv_iload hx hb dX12_groups_51 (lv_at hl 5 rfl) ?_
              refine lv_iconst (v := (-1)) hx hb dX12_groups_53 (by decide) ?_
              refine lv_ixor hx hb dX12_groups_54 ?_
              refine lv_iand hx hb dX12_groups_55 ?_
              refine lv_iload_n hx hb dX12_groups_56 rfl (lv_at hl 2 rfl) ?_
              refine x_callVAE (wg := fun z57 => WM G ad (ua σ 0 (upd (upd (upd (upd (σ 0) 9 (z57 0 9)) 10 (z57 0 10)) 11 (z57 0 11)) 12 (z57 0 12)))) (As := [.int (set &&& ((nI a) ^^^ (-1))), .int e]) (rest := [.int 1]) (st' := [.int (grp (zG β e) 4 (q &&& (15 ^^^ a))), .int 1]) hC hK hZ hA hl.1 hH (k_X12_groups_4 l G ad (ua σ 0 (upd (upd (upd (upd (σ 0) 9 (z39 0 9)) 10 (z39 0 10)) 11 (z39 0 11)) 12 (z39 0 12))) (set &&& ((nI a) ^^^ (-1))) e β (q &&& (15 ^^^ a)) hR (by rw [hq]; exact g_sub q hq16 a hi_a.2.1) (g_sub16 q hq16 a hi_a.2.1) (Nat.lt_of_lt_of_le (g_pc q hq16 a hi_a.2.1 hi_a.2.2.1 n26_) (by omega))) lk_X12_161 rfl 0 11 rfl rfl rfl ⟨Nat.le_of_ble_eq_true rfl, Nat.le_of_ble_eq_true rfl⟩ ⟨Nat.le_refl _, Nat.le_refl _⟩ (Nat.le_of_ble_eq_true rfl) rfl dX12_groups_57 (fun z57 H locs hH => ?_)
              refine lv_iadd hx hb dX12_groups_60 ?_
              refine lv_istore (lv' := [(6, .int (1 + (grp (zG β e) 4 (q &&& (15 ^^^ a))))), (0, .ref (ad 0)), (1, .int set), (2, .int e), (3, .int (nI (lst q))), (4, .int mo), (5, .int (nI a))]) hx hb dX12_groups_61 hl (by decide) rfl (fun ls hl => ?_)
              refine lv_iload hx hb dX12_groups_63 (lv_at hl 0 rfl) ?_
              refine lv_iload hx hb dX12_groups_65 (lv_at hl 5 rfl) ?_
              refine lv_icmp_le (tgt := 75) hx hb dX12_groups_67 (by decide) (fun c67 => ?_) (fun c67 => ?_)
              · refine lv_iload hx hb dX12_groups_75 (lv_at hl 5 rfl) ?_
                refine lv_istore (lv' := [(4, .int mo), (6, .int (1 + (grp (zG β e) 4 (q &&& (15 ^^^ a))))), (0, .ref (ad 0)), (1, .int set), (2, .int e), (3, .int (nI (lst q))), (5, .int (nI a))]) hx hb dX12_groups_77 hl (by decide) rfl (fun ls hl => ?_)
                refine lv_iload hx hb dX12_groups_79 (lv_at hl 6 rfl) ?_
                refine lv_iconst (v := 1) hx hb dX12_groups_81 (by decide) ?_
                refine lv_isub hx hb dX12_groups_82 ?_
                refine lv_iload_n hx hb dX12_groups_83 rfl (lv_at hl 3 rfl) ?_
                refine lv_iand hx hb dX12_groups_84 ?_
                refine lv_istore (lv' := [(5, .int (((nI a) - 1) &&& set)), (4, .int mo), (6, .int (1 + (grp (zG β e) 4 (q &&& (15 ^^^ a))))), (0, .ref (ad 0)), (1, .int set), (2, .int e), (3, .int (nI (lst q)))]) hx hb dX12_groups_85 hl (by decide) rfl (fun ls hl => ?_)
                refine lv_goto (tgt := 17) hx hb dX12_groups_87 (by decide) ?_
                obtain ⟨f1_, ef1_⟩ : ∃ f1_, f = f1_ + 1 := ⟨f - 1, by have := hi_a.1; omega⟩
                have nx_ := g_nx q hq16 a hi_a.2.1
                have st_ := hi_a.2.2.2
                rw [ef1_, lpG_s a0_] at st_
                exact ih_a (((a - 1) &&& q), (f - 1), mo, (ua σ 0 (upd (upd (upd (upd (σ 0) 9 (z57 0 9)) 10 (z57 0 10)) 11 (z57 0 11)) 12 (z57 0 12)))) (show ((a - 1) &&& q) ≤ (f - 1) ∧ ((a - 1) &&& q) < 16 ∧ ((a - 1) &&& q) &&& q = ((a - 1) &&& q) ∧ lpG (zG β e) (grp (zG β e) 4) q (f - 1) ((a - 1) &&& q) mo = grp (zG β e) 5 q from ⟨by have := nx_.2.2; have := hi_a.1; omega, nx_.1, nx_.2.1, by rw [ef1_, Nat.add_sub_cancel]; rw [← st_]; congr 1; first | exact (cI_t (Or.inl (z_of (by have := Nat.and_le_left (n := a) (m := lst q); omega) c26))).symm | exact (cI_t (Or.inr (Or.inl ((nI_eq (by omega) (by omega)).mp (c32.trans hq))))).symm | exact (cI_t (Or.inr (Or.inr c42))).symm | exact ((cI_f (fun z => z.elim n26_ (fun z => z.elim (fun z => c32 (by rw [z, hq])) (fun z => z c42)))).trans (if_pos (Int32.not_le.mp c67))).symm | exact ((cI_f (fun z => z.elim n26_ (fun z => z.elim (fun z => c32 (by rw [z, hq])) (fun z => z c42)))).trans (if_neg (Int32.not_lt.mpr c67))).symm⟩) (show (f - 1) < f from (by have := hi_a.1; omega)) _ _ _ (hH.eq rfl) (lv_eq (lv_sub hl [3, 4, 5, 6, 1, 0] rfl) (lc_s (lc_s (lc_s (lc_s (lc_s (lc_i (by rw [hq, g_pred a0_, nI_and] : (((nI a) - 1) &&& set) = (nI ((a - 1) &&& q))) rfl)))))))
              · refine lv_iload hx hb dX12_groups_70 (lv_at hl 0 rfl) ?_
                refine lv_goto (tgt := 77) hx hb dX12_groups_72 (by decide) ?_
                refine lv_istore (lv' := [(4, .int (1 + (grp (zG β e) 4 (q &&& (15 ^^^ a))))), (6, .int (1 + (grp (zG β e) 4 (q &&& (15 ^^^ a))))), (0, .ref (ad 0)), (1, .int set), (2, .int e), (3, .int (nI (lst q))), (5, .int (nI a))]) hx hb dX12_groups_77 hl (by decide) rfl (fun ls hl => ?_)
                refine lv_iload hx hb dX12_groups_79 (lv_at hl 6 rfl) ?_
                refine lv_iconst (v := 1) hx hb dX12_groups_81 (by decide) ?_
                refine lv_isub hx hb dX12_groups_82 ?_
                refine lv_iload_n hx hb dX12_groups_83 rfl (lv_at hl 3 rfl) ?_
                refine lv_iand hx hb dX12_groups_84 ?_
                refine lv_istore (lv' := [(5, .int (((nI a) - 1) &&& set)), (4, .int (1 + (grp (zG β e) 4 (q &&& (15 ^^^ a))))), (6, .int (1 + (grp (zG β e) 4 (q &&& (15 ^^^ a))))), (0, .ref (ad 0)), (1, .int set), (2, .int e), (3, .int (nI (lst q)))]) hx hb dX12_groups_85 hl (by decide) rfl (fun ls hl => ?_)
                refine lv_goto (tgt := 17) hx hb dX12_groups_87 (by decide) ?_
                obtain ⟨f1_, ef1_⟩ : ∃ f1_, f = f1_ + 1 := ⟨f - 1, by have := hi_a.1; omega⟩
                have nx_ := g_nx q hq16 a hi_a.2.1
                have st_ := hi_a.2.2.2
                rw [ef1_, lpG_s a0_] at st_
                exact ih_a (((a - 1) &&& q), (f - 1), (1 + (grp (zG β e) 4 (q &&& (15 ^^^ a)))), (ua σ 0 (upd (upd (upd (upd (σ 0) 9 (z57 0 9)) 10 (z57 0 10)) 11 (z57 0 11)) 12 (z57 0 12)))) (show ((a - 1) &&& q) ≤ (f - 1) ∧ ((a - 1) &&& q) < 16 ∧ ((a - 1) &&& q) &&& q = ((a - 1) &&& q) ∧ lpG (zG β e) (grp (zG β e) 4) q (f - 1) ((a - 1) &&& q) (1 + (grp (zG β e) 4 (q &&& (15 ^^^ a)))) = grp (zG β e) 5 q from ⟨by have := nx_.2.2; have := hi_a.1; omega, nx_.1, nx_.2.1, by rw [ef1_, Nat.add_sub_cancel]; rw [← st_]; congr 1; first | exact (cI_t (Or.inl (z_of (by have := Nat.and_le_left (n := a) (m := lst q); omega) c26))).symm | exact (cI_t (Or.inr (Or.inl ((nI_eq (by omega) (by omega)).mp (c32.trans hq))))).symm | exact (cI_t (Or.inr (Or.inr c42))).symm | exact ((cI_f (fun z => z.elim n26_ (fun z => z.elim (fun z => c32 (by rw [z, hq])) (fun z => z c42)))).trans (if_pos (Int32.not_le.mp c67))).symm | exact ((cI_f (fun z => z.elim n26_ (fun z => z.elim (fun z => c32 (by rw [z, hq])) (fun z => z c42)))).trans (if_neg (Int32.not_lt.mpr c67))).symm⟩) (show (f - 1) < f from (by have := hi_a.1; omega)) _ _ _ (hH.eq rfl) (lv_eq (lv_sub hl [3, 4, 5, 6, 1, 0] rfl) (lc_s (lc_s (lc_s (lc_s (lc_s (lc_i (by rw [hq, g_pred a0_, nI_and] : (((nI a) - 1) &&& set) = (nI ((a - 1) &&& q))) rfl)))))))
            · refine lv_goto (tgt := 79) hx hb dX12_groups_45 (by decide) ?_
              refine lv_iload hx hb dX12_groups_79 (lv_at hl 5 rfl) ?_
              refine lv_iconst (v := 1) hx hb dX12_groups_81 (by decide) ?_
              refine lv_isub hx hb dX12_groups_82 ?_
              refine lv_iload_n hx hb dX12_groups_83 rfl (lv_at hl 1 rfl) ?_
              refine lv_iand hx hb dX12_groups_84 ?_
              refine lv_istore (lv' := [(5, .int (((nI a) - 1) &&& set)), (0, .ref (ad 0)), (1, .int set), (2, .int e), (3, .int (nI (lst q))), (4, .int mo)]) hx hb dX12_groups_85 hl (by decide) rfl (fun ls hl => ?_)
              refine lv_goto (tgt := 17) hx hb dX12_groups_87 (by decide) ?_
              obtain ⟨f1_, ef1_⟩ : ∃ f1_, f = f1_ + 1 := ⟨f - 1, by have := hi_a.1; omega⟩
              have nx_ := g_nx q hq16 a hi_a.2.1
              have st_ := hi_a.2.2.2
              rw [ef1_, lpG_s a0_] at st_
              exact ih_a (((a - 1) &&& q), (f - 1), mo, (ua σ 0 (upd (upd (upd (upd (σ 0) 9 (z39 0 9)) 10 (z39 0 10)) 11 (z39 0 11)) 12 (z39 0 12)))) (show ((a - 1) &&& q) ≤ (f - 1) ∧ ((a - 1) &&& q) < 16 ∧ ((a - 1) &&& q) &&& q = ((a - 1) &&& q) ∧ lpG (zG β e) (grp (zG β e) 4) q (f - 1) ((a - 1) &&& q) mo = grp (zG β e) 5 q from ⟨by have := nx_.2.2; have := hi_a.1; omega, nx_.1, nx_.2.1, by rw [ef1_, Nat.add_sub_cancel]; rw [← st_]; congr 1; first | exact (cI_t (Or.inl (z_of (by have := Nat.and_le_left (n := a) (m := lst q); omega) c26))).symm | exact (cI_t (Or.inr (Or.inl ((nI_eq (by omega) (by omega)).mp (c32.trans hq))))).symm | exact (cI_t (Or.inr (Or.inr c42))).symm | exact ((cI_f (fun z => z.elim n26_ (fun z => z.elim (fun z => c32 (by rw [z, hq])) (fun z => z c42)))).trans (if_pos (Int32.not_le.mp c67))).symm | exact ((cI_f (fun z => z.elim n26_ (fun z => z.elim (fun z => c32 (by rw [z, hq])) (fun z => z c42)))).trans (if_neg (Int32.not_lt.mpr c67))).symm⟩) (show (f - 1) < f from (by have := hi_a.1; omega)) _ _ _ (hH.eq rfl) (lv_eq (lv_sub hl [1, 2, 3, 4, 5, 0] rfl) (lc_s (lc_s (lc_s (lc_s (lc_s (lc_i (by rw [hq, g_pred a0_, nI_and] : (((nI a) - 1) &&& set) = (nI ((a - 1) &&& q))) rfl)))))))
    · exact hH.eq rfl
    · exact lv_eq (lv_sub hl [3, 4, 5, 2, 1, 0] rfl) (lc_s (lc_s (lc_s (lc_s (lc_s (lc_i (by exact hq : set = (nI q)) rfl))))))
  · refine lv_iconst (v := 0) hx hb dX12_groups_4 (by decide) ?_
    exact x_iretE σ hC hr hkL hH (by first | (rw [popc4_0 q hq16 hpc]; rfl) | (rw [(nI_eq (a := q) (b := 0) (by omega) (by omega)).mp (hq.symm.trans (Classical.not_not.mp c1))]; rfl) | (rw [(nI_eq (a := q) (b := 0) (by omega) (by omega)).mp (hq.symm.trans c1)]; rfl)) rfl dX12_groups_5
set_option maxHeartbeats 4000000 in
set_option maxRecDepth 100000 in
theorem k_X12_settling (l : Launch) (G : GP) (ad : Nat → Nat) (σ : Nat → Nat → Int32) (e : Int32) (β : Bk) (hR : RB (σ 2) β) : CTE l G yX12_settling cX12_settling 4 (some .int) 10 [.ref (ad 0), .int e] (WM G ad σ) (some (.int (rfA (hbC e (2 ^ bH β)) (setlA β e)))) (fun z => WM G ad (ua (ua σ 0 (upd (upd (upd (upd (σ 0) 9 (z 0 9)) 10 (z 0 10)) 11 (z 0 11)) 12 (z 0 12))) 1 (rfz (σ 1) (hbC e (2 ^ bH β))))) := by
  refine x_methE "BetsOnBetsModel" rfl (by decide +kernel) (fun z => by rfl) (Nat.le_of_ble_eq_true rfl) ?_
  intro pP eE sS mM args below meth cC A ls hC hr hkL hK hZ hA hH hl
  have hx := hC.1
  have hb := hC.2.1
  have hl : lv_has ls 4 [(0, .ref (ad 0)), (1, .int e)] := hl
  have hh4 := hR.2.2.1
  have hk6 := hR.2.2.2.1
  have pwh := pw4 hh4
  have pwk := pw6 hk6
  refine lv_aload_n hx hb dX12_settling_0 rfl (lv_at hl 0 rfl) ?_
  refine lv_iload_n hx hb dX12_settling_1 rfl (lv_at hl 1 rfl) ?_
  refine x_callVA (ws' := WM G ad σ) (As := [.int e]) (rest := []) (st' := [.int (bI (0 ≤ e ∧ e < nI (2 ^ bH β)))]) hC hK hZ hA hl.1 hH (k_X12_isEnd l G ad σ e β hR) lk_X12_122 rfl 0 11 rfl rfl rfl ⟨Nat.le_of_ble_eq_true rfl, Nat.le_of_ble_eq_true rfl⟩ ⟨Nat.le_refl _, Nat.le_refl _⟩ (Nat.le_of_ble_eq_true rfl) rfl dX12_settling_2 (fun H locs hH => ?_)
  refine x_bne (tgt := 14) hC dX12_settling_5 (by decide) (fun c5 => ?_) (fun c5 => ?_)
  · refine lv_iconst (v := 0) hx hb dX12_settling_14 (by decide) ?_
    refine lv_istore_n (lv' := [(2, .int 0), (0, .ref (ad 0)), (1, .int e)]) hx hb dX12_settling_15 rfl hl (by decide) rfl (fun ls hl => ?_)
    refine lv_iconst (v := 0) hx hb dX12_settling_16 (by decide) ?_
    refine lv_istore_n (lv' := [(3, .int 0), (2, .int 0), (0, .ref (ad 0)), (1, .int e)]) hx hb dX12_settling_17 rfl hl (by decide) rfl (fun ls hl => ?_)
    refine x_loop (G := G) (A := A) (H0 := sS.heap) (nL := 4) (α := Nat × (Nat → Nat → Int32)) (fun q_ => 4 - q_.1) (fun q_ => q_.1 ≤ 4) (fun q_ => WM G ad (ua σ 0 (upd (upd (upd (upd (σ 0) 9 (q_.2 0 9)) 10 (q_.2 0 10)) 11 (q_.2 0 11)) 12 (q_.2 0 12)))) (fun q_ => [(0, .ref (ad 0)), (1, .int e), (2, .int (nI (seN β e q_.1))), (3, .int (nI q_.1))]) ?_ (0, σ) (show 0 ≤ 4 from (Nat.zero_le _)) ?_ ?_
    · rintro ⟨p, z_p⟩ hi_p ih_p H locs ls hH hl
      replace hi_p : p ≤ 4 := hi_p
      replace hH : Hx G A (WM G ad (ua σ 0 (upd (upd (upd (upd (σ 0) 9 (z_p 0 9)) 10 (z_p 0 10)) 11 (z_p 0 11)) 12 (z_p 0 12)))) sS.heap H locs := hH
      replace hl : lv_has ls 4 [(0, .ref (ad 0)), (1, .int e), (2, .int (nI (seN β e p))), (3, .int (nI p))] := hl
      refine lv_iload_n hx hb dX12_settling_18 rfl (lv_at hl 3 rfl) ?_
      refine lv_iconst (v := 4) hx hb dX12_settling_19 (by decide) ?_
      refine lv_icmp_ge (tgt := 48) hx hb dX12_settling_20 (by decide) (fun c20 => ?_) (fun c20 => ?_)
      · have ge_p := lp_out (n := 4) rfl (by omega) (by omega) c20
        have eq_p : p = 4 := by omega
        subst eq_p
        refine lv_iload_n hx hb dX12_settling_48 rfl (lv_at hl 2 rfl) ?_
        refine x_callS (ws' := WM G ad (ua σ 0 (upd (upd (upd (upd (σ 0) 9 (z_p 0 9)) 10 (z_p 0 10)) 11 (z_p 0 11)) 12 (z_p 0 12)))) (As := [.int (nI (seN β e 4))]) (rest := []) (st' := [.int (nI (popc 16 (seN β e 4)))]) hC hK hZ hA hl.1 hH (k_X12_bits l G (pk ad []) (pk (ua σ 0 (upd (upd (upd (upd (σ 0) 9 (z_p 0 9)) 10 (z_p 0 10)) 11 (z_p 0 11)) 12 (z_p 0 12))) []) (nI (seN β e 4)) (seN β e 4) rfl (by have := seN_lt β e 4; omega)) lk_X12_164 [] rfl rfl rfl rfl ⟨Nat.le_of_ble_eq_true rfl, Nat.le_of_ble_eq_true rfl⟩ ⟨Nat.le_refl _, Nat.le_refl _⟩ (Nat.le_of_ble_eq_true rfl) rfl dX12_settling_49 (fun H locs hH => ?_)
        refine lv_aload_n hx hb dX12_settling_52 rfl (lv_at hl 0 rfl) ?_
        refine lv_iload_n hx hb dX12_settling_53 rfl (lv_at hl 2 rfl) ?_
        refine lv_iload_n hx hb dX12_settling_54 rfl (lv_at hl 1 rfl) ?_
        refine x_callVAE (wg := fun z55 => WM G ad (ua σ 0 (upd (upd (upd (upd (σ 0) 9 (z55 0 9)) 10 (z55 0 10)) 11 (z55 0 11)) 12 (z55 0 12)))) (As := [.int (nI (seN β e 4)), .int e]) (rest := [.int (nI (popc 16 (seN β e 4)))]) (st' := [.int (grp (zG β e) 5 (seN β e 4)), .int (nI (popc 16 (seN β e 4)))]) hC hK hZ hA hl.1 hH (k_X12_groups_5 l G ad (ua σ 0 (upd (upd (upd (upd (σ 0) 9 (z_p 0 9)) 10 (z_p 0 10)) 11 (z_p 0 11)) 12 (z_p 0 12))) (nI (seN β e 4)) e β (seN β e 4) hR rfl (seN_lt β e 4) (popc4_le _ (seN_lt β e 4))) lk_X12_161 rfl 0 11 rfl rfl rfl ⟨Nat.le_of_ble_eq_true rfl, Nat.le_of_ble_eq_true rfl⟩ ⟨Nat.le_refl _, Nat.le_refl _⟩ (Nat.le_of_ble_eq_true rfl) rfl dX12_settling_55 (fun z55 H locs hH => ?_)
        refine lv_isub hx hb dX12_settling_58 ?_
        exact x_iretE (ua σ 0 (upd (upd (upd (upd (σ 0) 9 (z55 0 9)) 10 (z55 0 10)) 11 (z55 0 11)) 12 (z55 0 12))) hC hr hkL hH (by (refine (rfA0 (cI_t c5)).trans ?_); rfl) ((congrArg (fun z_ : Nat → Int32 => WM G ad (ua (ua σ 0 (upd (upd (upd (upd (σ 0) 9 (z55 0 9)) 10 (z55 0 10)) 11 (z55 0 11)) 12 (z55 0 12))) 1 z_)) (by exact rfz0 (cI_t c5) : (rfz (σ 1) (hbC e (2 ^ bH β))) = (σ 1))).trans (show WM G ad (ua (ua σ 0 (upd (upd (upd (upd (σ 0) 9 (z55 0 9)) 10 (z55 0 10)) 11 (z55 0 11)) 12 (z55 0 12))) 1 (σ 1)) = WM G ad (ua σ 0 (upd (upd (upd (upd (σ 0) 9 (z55 0 9)) 10 (z55 0 10)) 11 (z55 0 11)) 12 (z55 0 12))) from rfl)) dX12_settling_59
      · have lt_p := lp_in (n := 4) rfl (by omega) (by omega) c20
        refine lv_iload_n hx hb dX12_settling_23 rfl (lv_at hl 2 rfl) ?_
        refine lv_aload_n hx hb dX12_settling_24 rfl (lv_at hl 0 rfl) ?_
        refine lv_iload_n hx hb dX12_settling_25 rfl (lv_at hl 3 rfl) ?_
        refine lv_iload_n hx hb dX12_settling_26 rfl (lv_at hl 1 rfl) ?_
        refine x_callVAE (wg := fun z27 => WM G ad (ua σ 0 (upd (upd (upd (upd (σ 0) 9 (z27 0 9)) 10 (z27 0 10)) 11 (z27 0 11)) 12 (z27 0 12)))) (As := [.int (nI p), .int e]) (rest := [.int (nI (seN β e p))]) (st' := [.int (purA β (nI p) e), .int (nI (seN β e p))]) hC hK hZ hA hl.1 hH (k_X12_purseOf l G ad (ua σ 0 (upd (upd (upd (upd (σ 0) 9 (z_p 0 9)) 10 (z_p 0 10)) 11 (z_p 0 11)) 12 (z_p 0 12))) (nI p) e β hR) lk_X12_132 rfl 0 11 rfl rfl rfl ⟨Nat.le_of_ble_eq_true rfl, Nat.le_of_ble_eq_true rfl⟩ ⟨Nat.le_refl _, Nat.le_refl _⟩ (Nat.le_of_ble_eq_true rfl) rfl dX12_settling_27 (fun z27 H locs hH => ?_)
        refine lv_if_eq (tgt := 39) hx hb dX12_settling_30 (by decide) (fun c30 => ?_) (fun c30 => ?_)
        · refine lv_iconst (v := 0) hx hb dX12_settling_39 (by decide) ?_
          refine lv_ior hx hb dX12_settling_40 ?_
          refine lv_istore_n (lv' := [(2, .int ((nI (seN β e p)) ||| 0)), (0, .ref (ad 0)), (1, .int e), (3, .int (nI p))]) hx hb dX12_settling_41 rfl hl (by decide) rfl (fun ls hl => ?_)
          refine lv_iinc (v := ((nI p) + 1)) (lv' := [(3, .int ((nI p) + 1)), (2, .int ((nI (seN β e p)) ||| 0)), (0, .ref (ad 0)), (1, .int e)]) hx hb dX12_settling_42 hl (k := 3) rfl rfl (by decide) rfl (fun ls hl => ?_)
          refine lv_goto (tgt := 18) hx hb dX12_settling_45 (by decide) ?_
          exact ih_p ((p + 1), (ua σ 0 (upd (upd (upd (upd (σ 0) 9 (z27 0 9)) 10 (z27 0 10)) 11 (z27 0 11)) 12 (z27 0 12)))) (show (p + 1) ≤ 4 from (by omega)) (show 4 - (p + 1) < 4 - p from (by omega)) _ _ _ (hH.eq rfl) (lv_eq (lv_sub hl [2, 3, 1, 0] rfl) (lc_s (lc_s (lc_i (by first | (rw [seN, if_pos c30]; exact i_or0 _) | (rw [seN, if_neg c30]; exact or_top (seN_lt _ _ _) (by omega)) : ((nI (seN β e p)) ||| 0) = (nI (seN β e (p + 1)))) (lc_i (by exact nI_1 _ : ((nI p) + 1) = (nI (p + 1))) rfl)))))
        · refine lv_iconst (v := 1) hx hb dX12_settling_33 (by decide) ?_
          refine lv_iload_n hx hb dX12_settling_34 rfl (lv_at hl 3 rfl) ?_
          refine lv_ishl hx hb dX12_settling_35 ?_
          refine lv_goto (tgt := 40) hx hb dX12_settling_36 (by decide) ?_
          refine lv_ior hx hb dX12_settling_40 ?_
          refine lv_istore_n (lv' := [(2, .int ((nI (seN β e p)) ||| ((1 : Int32) <<< ((nI p) &&& 31)))), (0, .ref (ad 0)), (1, .int e), (3, .int (nI p))]) hx hb dX12_settling_41 rfl hl (by decide) rfl (fun ls hl => ?_)
          refine lv_iinc (v := ((nI p) + 1)) (lv' := [(3, .int ((nI p) + 1)), (2, .int ((nI (seN β e p)) ||| ((1 : Int32) <<< ((nI p) &&& 31)))), (0, .ref (ad 0)), (1, .int e)]) hx hb dX12_settling_42 hl (k := 3) rfl rfl (by decide) rfl (fun ls hl => ?_)
          refine lv_goto (tgt := 18) hx hb dX12_settling_45 (by decide) ?_
          exact ih_p ((p + 1), (ua σ 0 (upd (upd (upd (upd (σ 0) 9 (z27 0 9)) 10 (z27 0 10)) 11 (z27 0 11)) 12 (z27 0 12)))) (show (p + 1) ≤ 4 from (by omega)) (show 4 - (p + 1) < 4 - p from (by omega)) _ _ _ (hH.eq rfl) (lv_eq (lv_sub hl [2, 3, 1, 0] rfl) (lc_s (lc_s (lc_i (by first | (rw [seN, if_pos c30]; exact i_or0 _) | (rw [seN, if_neg c30]; exact or_top (seN_lt _ _ _) (by omega)) : ((nI (seN β e p)) ||| ((1 : Int32) <<< ((nI p) &&& 31))) = (nI (seN β e (p + 1)))) (lc_i (by exact nI_1 _ : ((nI p) + 1) = (nI (p + 1))) rfl)))))
    · exact hH.eq rfl
    · exact lv_eq (lv_sub hl [2, 3, 1, 0] rfl) (lc_s (lc_s (lc_i (by rfl : 0 = (nI (seN β e 0))) (lc_i (by rfl : 0 = (nI 0)) rfl))))
  · refine lv_aload_n hx hb dX12_settling_8 rfl (lv_at hl 0 rfl) ?_
    refine lv_iconst (v := (-1)) hx hb dX12_settling_9 (by decide) ?_
    refine x_callVA (ws' := WM G ad (ua σ 1 (upd (σ 1) 1 ((σ 1) 1 + 1)))) (As := [.int (-1)]) (rest := []) (st' := [.int (-1)]) hC hK hZ hA hl.1 hH (k_X12_refuse l G ad σ (-1) 1 rfl (by decide)) lk_X12_47 rfl 0 11 rfl rfl rfl ⟨Nat.le_of_ble_eq_true rfl, Nat.le_of_ble_eq_true rfl⟩ ⟨Nat.le_refl _, Nat.le_refl _⟩ (Nat.le_of_ble_eq_true rfl) rfl dX12_settling_10 (fun H locs hH => ?_)
    exact x_iretE (ua σ 1 (upd (σ 1) 1 ((σ 1) 1 + 1))) hC hr hkL hH (by exact rfAk (cI_f c5) (by decide)) (congrArg (fun z_ : Nat → Int32 => WM G ad (ua σ 1 z_)) (by exact rfzk (cI_f c5) (by decide) : (rfz (σ 1) (hbC e (2 ^ bH β))) = (upd (σ 1) 1 ((σ 1) 1 + 1)))) dX12_settling_13
set_option maxHeartbeats 4000000 in
set_option maxRecDepth 100000 in
theorem k_X12_cannotPay (l : Launch) (G : GP) (ad : Nat → Nat) (σ : Nat → Nat → Int32) (e : Int32) (β : Bk) (hR : RB (σ 2) β) : CTE l G yX12_cannotPay cX12_cannotPay 4 (some .int) 5 [.ref (ad 0), .int e] (WM G ad σ) (some (.int (rfA (hbC e (2 ^ bH β)) (cpS β e 4)))) (fun z => WM G ad (ua (ua σ 0 (upd (upd (upd (upd (σ 0) 9 (z 0 9)) 10 (z 0 10)) 11 (z 0 11)) 12 (z 0 12))) 1 (rfz (σ 1) (hbC e (2 ^ bH β))))) := by
  refine x_methE "BetsOnBetsModel" rfl (by decide +kernel) (fun z => by rfl) (Nat.le_of_ble_eq_true rfl) ?_
  intro pP eE sS mM args below meth cC A ls hC hr hkL hK hZ hA hH hl
  have hx := hC.1
  have hb := hC.2.1
  have hl : lv_has ls 4 [(0, .ref (ad 0)), (1, .int e)] := hl
  have hh4 := hR.2.2.1
  have hk6 := hR.2.2.2.1
  have pwh := pw4 hh4
  have pwk := pw6 hk6
  refine lv_aload_n hx hb dX12_cannotPay_0 rfl (lv_at hl 0 rfl) ?_
  refine lv_iload_n hx hb dX12_cannotPay_1 rfl (lv_at hl 1 rfl) ?_
  refine x_callVA (ws' := WM G ad σ) (As := [.int e]) (rest := []) (st' := [.int (bI (0 ≤ e ∧ e < nI (2 ^ bH β)))]) hC hK hZ hA hl.1 hH (k_X12_isEnd l G ad σ e β hR) lk_X12_122 rfl 0 11 rfl rfl rfl ⟨Nat.le_of_ble_eq_true rfl, Nat.le_of_ble_eq_true rfl⟩ ⟨Nat.le_refl _, Nat.le_refl _⟩ (Nat.le_of_ble_eq_true rfl) rfl dX12_cannotPay_2 (fun H locs hH => ?_)
  refine x_bne (tgt := 14) hC dX12_cannotPay_5 (by decide) (fun c5 => ?_) (fun c5 => ?_)
  · refine lv_iconst (v := 0) hx hb dX12_cannotPay_14 (by decide) ?_
    refine lv_istore_n (lv' := [(2, .int 0), (0, .ref (ad 0)), (1, .int e)]) hx hb dX12_cannotPay_15 rfl hl (by decide) rfl (fun ls hl => ?_)
    refine lv_iconst (v := 0) hx hb dX12_cannotPay_16 (by decide) ?_
    refine lv_istore_n (lv' := [(3, .int 0), (2, .int 0), (0, .ref (ad 0)), (1, .int e)]) hx hb dX12_cannotPay_17 rfl hl (by decide) rfl (fun ls hl => ?_)
    refine x_loop (G := G) (A := A) (H0 := sS.heap) (nL := 4) (α := Nat × (Nat → Nat → Int32)) (fun q_ => 4 - q_.1) (fun q_ => q_.1 ≤ 4) (fun q_ => WM G ad (ua σ 0 (upd (upd (upd (upd (σ 0) 9 (q_.2 0 9)) 10 (q_.2 0 10)) 11 (q_.2 0 11)) 12 (q_.2 0 12)))) (fun q_ => [(0, .ref (ad 0)), (1, .int e), (2, .int (cpS β e q_.1)), (3, .int (nI q_.1))]) ?_ (0, σ) (show 0 ≤ 4 from (Nat.zero_le _)) ?_ ?_
    · rintro ⟨p, z_p⟩ hi_p ih_p H locs ls hH hl
      replace hi_p : p ≤ 4 := hi_p
      replace hH : Hx G A (WM G ad (ua σ 0 (upd (upd (upd (upd (σ 0) 9 (z_p 0 9)) 10 (z_p 0 10)) 11 (z_p 0 11)) 12 (z_p 0 12)))) sS.heap H locs := hH
      replace hl : lv_has ls 4 [(0, .ref (ad 0)), (1, .int e), (2, .int (cpS β e p)), (3, .int (nI p))] := hl
      refine lv_iload_n hx hb dX12_cannotPay_18 rfl (lv_at hl 3 rfl) ?_
      refine lv_iconst (v := 4) hx hb dX12_cannotPay_19 (by decide) ?_
      refine lv_icmp_ge (tgt := 58) hx hb dX12_cannotPay_20 (by decide) (fun c20 => ?_) (fun c20 => ?_)
      · have ge_p := lp_out (n := 4) rfl (by omega) (by omega) c20
        have eq_p : p = 4 := by omega
        subst eq_p
        refine lv_iload_n hx hb dX12_cannotPay_58 rfl (lv_at hl 2 rfl) ?_
        exact x_iretE (ua σ 0 (upd (upd (upd (upd (σ 0) 9 (z_p 0 9)) 10 (z_p 0 10)) 11 (z_p 0 11)) 12 (z_p 0 12))) hC hr hkL hH (by (refine (rfA0 (cI_t c5)).trans ?_); rfl) ((congrArg (fun z_ : Nat → Int32 => WM G ad (ua (ua σ 0 (upd (upd (upd (upd (σ 0) 9 (z_p 0 9)) 10 (z_p 0 10)) 11 (z_p 0 11)) 12 (z_p 0 12))) 1 z_)) (by exact rfz0 (cI_t c5) : (rfz (σ 1) (hbC e (2 ^ bH β))) = (σ 1))).trans (show WM G ad (ua (ua σ 0 (upd (upd (upd (upd (σ 0) 9 (z_p 0 9)) 10 (z_p 0 10)) 11 (z_p 0 11)) 12 (z_p 0 12))) 1 (σ 1)) = WM G ad (ua σ 0 (upd (upd (upd (upd (σ 0) 9 (z_p 0 9)) 10 (z_p 0 10)) 11 (z_p 0 11)) 12 (z_p 0 12))) from rfl)) dX12_cannotPay_59
      · have lt_p := lp_in (n := 4) rfl (by omega) (by omega) c20
        refine lv_iload_n hx hb dX12_cannotPay_23 rfl (lv_at hl 2 rfl) ?_
        refine lv_aload_n hx hb dX12_cannotPay_24 rfl (lv_at hl 0 rfl) ?_
        refine lv_iload_n hx hb dX12_cannotPay_25 rfl (lv_at hl 3 rfl) ?_
        refine lv_iload_n hx hb dX12_cannotPay_26 rfl (lv_at hl 1 rfl) ?_
        refine x_callVAE (wg := fun z27 => WM G ad (ua σ 0 (upd (upd (upd (upd (σ 0) 9 (z27 0 9)) 10 (z27 0 10)) 11 (z27 0 11)) 12 (z27 0 12)))) (As := [.int (nI p), .int e]) (rest := [.int (cpS β e p)]) (st' := [.int (purA β (nI p) e), .int (cpS β e p)]) hC hK hZ hA hl.1 hH (k_X12_purseOf l G ad (ua σ 0 (upd (upd (upd (upd (σ 0) 9 (z_p 0 9)) 10 (z_p 0 10)) 11 (z_p 0 11)) 12 (z_p 0 12))) (nI p) e β hR) lk_X12_132 rfl 0 11 rfl rfl rfl ⟨Nat.le_of_ble_eq_true rfl, Nat.le_of_ble_eq_true rfl⟩ ⟨Nat.le_refl _, Nat.le_refl _⟩ (Nat.le_of_ble_eq_true rfl) rfl dX12_cannotPay_27 (fun z27 H locs hH => ?_)
        refine lv_ineg hx hb dX12_cannotPay_30 ?_
        refine lv_aload_n hx hb dX12_cannotPay_31 rfl (lv_at hl 0 rfl) ?_
        refine gf_X12_13 (v := .ref (ad 2)) hC hK hH 0 rfl rfl dX12_cannotPay_32 ?_
        refine lv_bipush (v := 6) hx hb dX12_cannotPay_35 (by decide) ?_
        refine lv_iload_n hx hb dX12_cannotPay_37 rfl (lv_at hl 3 rfl) ?_
        refine lv_iadd hx hb dX12_cannotPay_38 ?_
        refine x_ialN (f := (σ 2)) hC hK hH 2 (6 + p) rfl (by rw [nIa]; rfl) (by omega) (Nat.le_of_ble_eq_true rfl) dX12_cannotPay_39 ?_
        refine x_topE (y := (bF β p)) (hR.2.2.2.2.2.1 _ (by omega)) ?_
        refine lv_icmp_le (tgt := 49) hx hb dX12_cannotPay_40 (by decide) (fun c40 => ?_) (fun c40 => ?_)
        · refine lv_iconst (v := 0) hx hb dX12_cannotPay_49 (by decide) ?_
          refine lv_ior hx hb dX12_cannotPay_50 ?_
          refine lv_istore_n (lv' := [(2, .int ((cpS β e p) ||| 0)), (0, .ref (ad 0)), (1, .int e), (3, .int (nI p))]) hx hb dX12_cannotPay_51 rfl hl (by decide) rfl (fun ls hl => ?_)
          refine lv_iinc (v := ((nI p) + 1)) (lv' := [(3, .int ((nI p) + 1)), (2, .int ((cpS β e p) ||| 0)), (0, .ref (ad 0)), (1, .int e)]) hx hb dX12_cannotPay_52 hl (k := 3) rfl rfl (by decide) rfl (fun ls hl => ?_)
          refine lv_goto (tgt := 18) hx hb dX12_cannotPay_55 (by decide) ?_
          exact ih_p ((p + 1), (ua σ 0 (upd (upd (upd (upd (σ 0) 9 (z27 0 9)) 10 (z27 0 10)) 11 (z27 0 11)) 12 (z27 0 12)))) (show (p + 1) ≤ 4 from (by omega)) (show 4 - (p + 1) < 4 - p from (by omega)) _ _ _ (hH.eq rfl) (lv_eq (lv_sub hl [2, 3, 1, 0] rfl) (lc_s (lc_s (lc_i (by first | (rw [cpS, if_neg (Int32.not_lt.mpr c40)]; done) | (rw [cpS, if_pos (Int32.not_le.mp c40)]; done) : ((cpS β e p) ||| 0) = (cpS β e (p + 1))) (lc_i (by exact nI_1 _ : ((nI p) + 1) = (nI (p + 1))) rfl)))))
        · refine lv_iconst (v := 1) hx hb dX12_cannotPay_43 (by decide) ?_
          refine lv_iload_n hx hb dX12_cannotPay_44 rfl (lv_at hl 3 rfl) ?_
          refine lv_ishl hx hb dX12_cannotPay_45 ?_
          refine lv_goto (tgt := 50) hx hb dX12_cannotPay_46 (by decide) ?_
          refine lv_ior hx hb dX12_cannotPay_50 ?_
          refine lv_istore_n (lv' := [(2, .int ((cpS β e p) ||| ((1 : Int32) <<< ((nI p) &&& 31)))), (0, .ref (ad 0)), (1, .int e), (3, .int (nI p))]) hx hb dX12_cannotPay_51 rfl hl (by decide) rfl (fun ls hl => ?_)
          refine lv_iinc (v := ((nI p) + 1)) (lv' := [(3, .int ((nI p) + 1)), (2, .int ((cpS β e p) ||| ((1 : Int32) <<< ((nI p) &&& 31)))), (0, .ref (ad 0)), (1, .int e)]) hx hb dX12_cannotPay_52 hl (k := 3) rfl rfl (by decide) rfl (fun ls hl => ?_)
          refine lv_goto (tgt := 18) hx hb dX12_cannotPay_55 (by decide) ?_
          exact ih_p ((p + 1), (ua σ 0 (upd (upd (upd (upd (σ 0) 9 (z27 0 9)) 10 (z27 0 10)) 11 (z27 0 11)) 12 (z27 0 12)))) (show (p + 1) ≤ 4 from (by omega)) (show 4 - (p + 1) < 4 - p from (by omega)) _ _ _ (hH.eq rfl) (lv_eq (lv_sub hl [2, 3, 1, 0] rfl) (lc_s (lc_s (lc_i (by first | (rw [cpS, if_neg (Int32.not_lt.mpr c40)]; done) | (rw [cpS, if_pos (Int32.not_le.mp c40)]; done) : ((cpS β e p) ||| ((1 : Int32) <<< ((nI p) &&& 31))) = (cpS β e (p + 1))) (lc_i (by exact nI_1 _ : ((nI p) + 1) = (nI (p + 1))) rfl)))))
    · exact hH.eq rfl
    · exact lv_eq (lv_sub hl [2, 3, 1, 0] rfl) (lc_s (lc_s (lc_i (by rfl : 0 = (cpS β e 0)) (lc_i (by rfl : 0 = (nI 0)) rfl))))
  · refine lv_aload_n hx hb dX12_cannotPay_8 rfl (lv_at hl 0 rfl) ?_
    refine lv_iconst (v := (-1)) hx hb dX12_cannotPay_9 (by decide) ?_
    refine x_callVA (ws' := WM G ad (ua σ 1 (upd (σ 1) 1 ((σ 1) 1 + 1)))) (As := [.int (-1)]) (rest := []) (st' := [.int (-1)]) hC hK hZ hA hl.1 hH (k_X12_refuse l G ad σ (-1) 1 rfl (by decide)) lk_X12_47 rfl 0 11 rfl rfl rfl ⟨Nat.le_of_ble_eq_true rfl, Nat.le_of_ble_eq_true rfl⟩ ⟨Nat.le_refl _, Nat.le_refl _⟩ (Nat.le_of_ble_eq_true rfl) rfl dX12_cannotPay_10 (fun H locs hH => ?_)
    exact x_iretE (ua σ 1 (upd (σ 1) 1 ((σ 1) 1 + 1))) hC hr hkL hH (by exact rfAk (cI_f c5) (by decide)) (congrArg (fun z_ : Nat → Int32 => WM G ad (ua σ 1 z_)) (by exact rfzk (cI_f c5) (by decide) : (rfz (σ 1) (hbC e (2 ^ bH β))) = (upd (σ 1) 1 ((σ 1) 1 + 1)))) dX12_cannotPay_13
set_option maxHeartbeats 4000000 in
set_option maxRecDepth 100000 in
theorem k_X12_marked (l : Launch) (G : GP) (ad : Nat → Nat) (σ : Nat → Nat → Int32) (b : Int32) (β : Bk) (bj : Nat) (hR : RB (σ 2) β) (hbN : b = nI bj) (hbk : bj < 6) : CT l G yX12_marked cX12_marked 4 (some .int) 2 [.ref (ad 0), .int b] (WM G ad σ) (some (.int (mkA β bj))) (WM G ad σ) := by
  refine x_meth "BetsOnBetsModel" rfl (by decide +kernel) (by rfl) (Nat.le_of_ble_eq_true rfl) ?_
  intro pP eE sS mM args below meth cC A ls hC hr hkL hK hZ hA hH hl
  have hx := hC.1
  have hb := hC.2.1
  have hl : lv_has ls 4 [(0, .ref (ad 0)), (1, .int b)] := hl
  have hh4 := hR.2.2.1
  have hk6 := hR.2.2.2.1
  have pwh := pw4 hh4
  have pwk := pw6 hk6
  refine lv_iconst (v := 0) hx hb dX12_marked_0 (by decide) ?_
  refine lv_istore_n (lv' := [(2, .int 0), (0, .ref (ad 0)), (1, .int b)]) hx hb dX12_marked_1 rfl hl (by decide) rfl (fun ls hl => ?_)
  refine lv_iconst (v := 1) hx hb dX12_marked_2 (by decide) ?_
  refine lv_istore_n (lv' := [(3, .int 1), (2, .int 0), (0, .ref (ad 0)), (1, .int b)]) hx hb dX12_marked_3 rfl hl (by decide) rfl (fun ls hl => ?_)
  refine lv_iload_n hx hb dX12_marked_4 rfl (lv_at hl 0 rfl) ?_
  refine lv_aload_n hx hb dX12_marked_5 rfl (lv_at hl 2 rfl) ?_
  refine lv_iload_n hx hb dX12_marked_6 rfl (lv_at hl 3 rfl) ?_
  refine lv_iconst (v := 0) hx hb dX12_marked_7 (by decide) ?_
  refine x_callVA (ws' := WM G ad σ) (As := [.int b, .int 0]) (rest := [.int 1]) (st' := [.int (nm β bj 0), .int 1]) hC hK hZ hA hl.1 hH (k_X12_get l G ad σ b 0 β bj 0 hR hbN rfl hbk (by decide)) lk_X12_96 rfl 0 11 rfl rfl rfl ⟨Nat.le_of_ble_eq_true rfl, Nat.le_of_ble_eq_true rfl⟩ ⟨Nat.le_refl _, Nat.le_refl _⟩ (Nat.le_of_ble_eq_true rfl) rfl dX12_marked_8 (fun H locs hH => ?_)
  refine lv_iconst (v := 2) hx hb dX12_marked_11 (by decide) ?_
  refine lv_icmp_ge (tgt := 19) hx hb dX12_marked_12 (by decide) (fun c12 => ?_) (fun c12 => ?_)
  · refine lv_iconst (v := 2) hx hb dX12_marked_19 (by decide) ?_
    have k1_ := c12
    refine lv_icmp_gt (tgt := 70) hx hb dX12_marked_20 (by decide) (fun c20 => ?_) (fun c20 => ?_)
    · exact absurd c20 (by decide)
    refine x_meet1 (G := G) (A := A) (H0 := sS.heap) (nL := 4) (WM G ad σ) [(0, .ref (ad 0)), (1, .int b), (2, .int (mk1 β bj 1 0)), (3, .int 1)] 64 [] ?_ ?_
    · intro H locs ls hH hl
      refine lv_iinc (v := 2) (lv' := [(3, .int 2), (0, .ref (ad 0)), (1, .int b), (2, .int (mk1 β bj 1 0))]) hx hb dX12_marked_64 hl (k := 3) rfl (by decide) (by decide) rfl (fun ls hl => ?_)
      refine lv_goto (tgt := 4) hx hb dX12_marked_67 (by decide) ?_
      refine lv_iload_n hx hb dX12_marked_4 rfl (lv_at hl 0 rfl) ?_
      refine lv_aload_n hx hb dX12_marked_5 rfl (lv_at hl 1 rfl) ?_
      refine lv_iload_n hx hb dX12_marked_6 rfl (lv_at hl 2 rfl) ?_
      refine lv_iconst (v := 0) hx hb dX12_marked_7 (by decide) ?_
      refine x_callVA (ws' := WM G ad σ) (As := [.int b, .int 0]) (rest := [.int 2]) (st' := [.int (nm β bj 0), .int 2]) hC hK hZ hA hl.1 hH (k_X12_get l G ad σ b 0 β bj 0 hR hbN rfl hbk (by decide)) lk_X12_96 rfl 0 11 rfl rfl rfl ⟨Nat.le_of_ble_eq_true rfl, Nat.le_of_ble_eq_true rfl⟩ ⟨Nat.le_refl _, Nat.le_refl _⟩ (Nat.le_of_ble_eq_true rfl) rfl dX12_marked_8 (fun H locs hH => ?_)
      refine lv_iconst (v := 2) hx hb dX12_marked_11 (by decide) ?_
      refine lv_icmp_ge (tgt := 19) hx hb dX12_marked_12 (by decide) (fun c12 => ?_) (fun c12 => ?_)
      rotate_left
      · exact absurd k1_ c12
      refine lv_iconst (v := 2) hx hb dX12_marked_19 (by decide) ?_
      have k1_ := c12
      refine lv_icmp_gt (tgt := 70) hx hb dX12_marked_20 (by decide) (fun c20 => ?_) (fun c20 => ?_)
      · exact absurd c20 (by decide)
      refine x_meet1 (G := G) (A := A) (H0 := sS.heap) (nL := 4) (WM G ad σ) [(0, .ref (ad 0)), (1, .int b), (2, .int (mk1 β bj 2 (mk1 β bj 1 0))), (3, .int 2)] 64 [] ?_ ?_
      · intro H locs ls hH hl
        refine lv_iinc (v := 3) (lv' := [(3, .int 3), (0, .ref (ad 0)), (1, .int b), (2, .int (mk1 β bj 2 (mk1 β bj 1 0)))]) hx hb dX12_marked_64 hl (k := 3) rfl (by decide) (by decide) rfl (fun ls hl => ?_)
        refine lv_goto (tgt := 4) hx hb dX12_marked_67 (by decide) ?_
        refine lv_iload_n hx hb dX12_marked_4 rfl (lv_at hl 0 rfl) ?_
        refine lv_aload_n hx hb dX12_marked_5 rfl (lv_at hl 1 rfl) ?_
        refine lv_iload_n hx hb dX12_marked_6 rfl (lv_at hl 2 rfl) ?_
        refine lv_iconst (v := 0) hx hb dX12_marked_7 (by decide) ?_
        refine x_callVA (ws' := WM G ad σ) (As := [.int b, .int 0]) (rest := [.int 3]) (st' := [.int (nm β bj 0), .int 3]) hC hK hZ hA hl.1 hH (k_X12_get l G ad σ b 0 β bj 0 hR hbN rfl hbk (by decide)) lk_X12_96 rfl 0 11 rfl rfl rfl ⟨Nat.le_of_ble_eq_true rfl, Nat.le_of_ble_eq_true rfl⟩ ⟨Nat.le_refl _, Nat.le_refl _⟩ (Nat.le_of_ble_eq_true rfl) rfl dX12_marked_8 (fun H locs hH => ?_)
        refine lv_iconst (v := 2) hx hb dX12_marked_11 (by decide) ?_
        refine lv_icmp_ge (tgt := 19) hx hb dX12_marked_12 (by decide) (fun c12 => ?_) (fun c12 => ?_)
        rotate_left
        · exact absurd k1_ c12
        refine lv_iconst (v := 2) hx hb dX12_marked_19 (by decide) ?_
        have k1_ := c12
        refine lv_icmp_gt (tgt := 70) hx hb dX12_marked_20 (by decide) (fun c20 => ?_) (fun c20 => ?_)
        rotate_left
        · exact absurd c20 (by decide)
        refine lv_iload_n hx hb dX12_marked_70 rfl (lv_at hl 3 rfl) ?_
        exact x_iret hC hr hkL hH (by first | exact if_pos k1_ | exact if_neg k1_) rfl dX12_marked_71
      · intro kJ23
        refine lv_aload_n hx hb dX12_marked_23 rfl (lv_at hl 1 rfl) ?_
        refine lv_iload_n hx hb dX12_marked_24 rfl (lv_at hl 2 rfl) ?_
        refine lv_iload_n hx hb dX12_marked_25 rfl (lv_at hl 0 rfl) ?_
        refine x_callVA (ws' := WM G ad σ) (As := [.int b, .int 2]) (rest := []) (st' := [.int (nm β bj 2)]) hC hK hZ hA hl.1 hH (k_X12_get l G ad σ b 2 β bj 2 hR hbN rfl hbk (by decide)) lk_X12_96 rfl 0 11 rfl rfl rfl ⟨Nat.le_of_ble_eq_true rfl, Nat.le_of_ble_eq_true rfl⟩ ⟨Nat.le_refl _, Nat.le_refl _⟩ (Nat.le_of_ble_eq_true rfl) rfl dX12_marked_26 (fun H locs hH => ?_)
        refine lv_bipush (v := 10) hx hb dX12_marked_29 (by decide) ?_
        refine lv_icmp_lt (tgt := 64) hx hb dX12_marked_31 (by decide) (fun c31 => ?_) (fun c31 => ?_)
        · exact kJ23 _ _ _ (hH.eq rfl) (lv_eq (lv_sub hl [1, 2, 3, 0] rfl) (lc_s (lc_s (lc_i (by first | exact (cI_f (fun z => absurd z.1 (Int32.not_le.mpr c31))).symm | exact (cI_f (fun z => c47 z.2)).symm | exact (cI_t ⟨Int32.not_lt.mp c31, c47⟩).symm : (mk1 β bj 1 0) = (mk1 β bj 2 (mk1 β bj 1 0))) (lc_s rfl)))))
        · refine lv_aload_n hx hb dX12_marked_34 rfl (lv_at hl 1 rfl) ?_
          refine lv_aload_n hx hb dX12_marked_35 rfl (lv_at hl 1 rfl) ?_
          refine lv_iload_n hx hb dX12_marked_36 rfl (lv_at hl 2 rfl) ?_
          refine lv_iload_n hx hb dX12_marked_37 rfl (lv_at hl 0 rfl) ?_
          refine x_callVA (ws' := WM G ad σ) (As := [.int b, .int 2]) (rest := [.ref (ad 0)]) (st' := [.int (nm β bj 2), .ref (ad 0)]) hC hK hZ hA hl.1 hH (k_X12_get l G ad σ b 2 β bj 2 hR hbN rfl hbk (by decide)) lk_X12_96 rfl 0 11 rfl rfl rfl ⟨Nat.le_of_ble_eq_true rfl, Nat.le_of_ble_eq_true rfl⟩ ⟨Nat.le_refl _, Nat.le_refl _⟩ (Nat.le_of_ble_eq_true rfl) rfl dX12_marked_38 (fun H locs hH => ?_)
          refine lv_bipush (v := 10) hx hb dX12_marked_41 (by decide) ?_
          refine lv_isub hx hb dX12_marked_43 ?_
          refine x_callVA (ws' := WM G ad σ) (As := [.int ((nm β bj 2) - 10)]) (rest := []) (st' := [.int (bI (0 ≤ ((nm β bj 2) - 10) ∧ ((nm β bj 2) - 10) < nI (bK β)))]) hC hK hZ hA hl.1 hH (k_X12_isBet l G ad σ ((nm β bj 2) - 10) β hR) lk_X12_93 rfl 0 11 rfl rfl rfl ⟨Nat.le_of_ble_eq_true rfl, Nat.le_of_ble_eq_true rfl⟩ ⟨Nat.le_refl _, Nat.le_refl _⟩ (Nat.le_of_ble_eq_true rfl) rfl dX12_marked_44 (fun H locs hH => ?_)
          refine x_beq (tgt := 64) hC dX12_marked_47 (by decide) (fun c47 => ?_) (fun c47 => ?_)
          · exact kJ23 _ _ _ (hH.eq rfl) (lv_eq (lv_sub hl [1, 2, 3, 0] rfl) (lc_s (lc_s (lc_i (by first | exact (cI_f (fun z => absurd z.1 (Int32.not_le.mpr c31))).symm | exact (cI_f (fun z => c47 z.2)).symm | exact (cI_t ⟨Int32.not_lt.mp c31, c47⟩).symm : (mk1 β bj 1 0) = (mk1 β bj 2 (mk1 β bj 1 0))) (lc_s rfl)))))
          · refine lv_iload_n hx hb dX12_marked_50 rfl (lv_at hl 3 rfl) ?_
            refine lv_iconst (v := 1) hx hb dX12_marked_51 (by decide) ?_
            refine lv_aload_n hx hb dX12_marked_52 rfl (lv_at hl 1 rfl) ?_
            refine lv_iload_n hx hb dX12_marked_53 rfl (lv_at hl 2 rfl) ?_
            refine lv_iload_n hx hb dX12_marked_54 rfl (lv_at hl 0 rfl) ?_
            refine x_callVA (ws' := WM G ad σ) (As := [.int b, .int 2]) (rest := [.int 1, .int (mk1 β bj 1 0)]) (st' := [.int (nm β bj 2), .int 1, .int (mk1 β bj 1 0)]) hC hK hZ hA hl.1 hH (k_X12_get l G ad σ b 2 β bj 2 hR hbN rfl hbk (by decide)) lk_X12_96 rfl 0 11 rfl rfl rfl ⟨Nat.le_of_ble_eq_true rfl, Nat.le_of_ble_eq_true rfl⟩ ⟨Nat.le_refl _, Nat.le_refl _⟩ (Nat.le_of_ble_eq_true rfl) rfl dX12_marked_55 (fun H locs hH => ?_)
            refine lv_bipush (v := 10) hx hb dX12_marked_58 (by decide) ?_
            refine lv_isub hx hb dX12_marked_60 ?_
            refine lv_ishl hx hb dX12_marked_61 ?_
            refine lv_ior hx hb dX12_marked_62 ?_
            refine lv_istore_n (lv' := [(2, .int ((mk1 β bj 1 0) ||| ((1 : Int32) <<< (((nm β bj 2) - 10) &&& 31)))), (3, .int 2), (0, .ref (ad 0)), (1, .int b)]) hx hb dX12_marked_63 rfl hl (by decide) rfl (fun ls hl => ?_)
            exact kJ23 _ _ _ (hH.eq rfl) (lv_eq (lv_sub hl [2, 3, 0, 1] rfl) (lc_s (lc_s (lc_i (by first | exact (cI_f (fun z => absurd z.1 (Int32.not_le.mpr c31))).symm | exact (cI_f (fun z => c47 z.2)).symm | exact (cI_t ⟨Int32.not_lt.mp c31, c47⟩).symm : ((mk1 β bj 1 0) ||| ((1 : Int32) <<< (((nm β bj 2) - 10) &&& 31))) = (mk1 β bj 2 (mk1 β bj 1 0))) (lc_s rfl)))))
    · intro kJ23
      refine lv_aload_n hx hb dX12_marked_23 rfl (lv_at hl 2 rfl) ?_
      refine lv_iload_n hx hb dX12_marked_24 rfl (lv_at hl 3 rfl) ?_
      refine lv_iload_n hx hb dX12_marked_25 rfl (lv_at hl 0 rfl) ?_
      refine x_callVA (ws' := WM G ad σ) (As := [.int b, .int 1]) (rest := []) (st' := [.int (nm β bj 1)]) hC hK hZ hA hl.1 hH (k_X12_get l G ad σ b 1 β bj 1 hR hbN rfl hbk (by decide)) lk_X12_96 rfl 0 11 rfl rfl rfl ⟨Nat.le_of_ble_eq_true rfl, Nat.le_of_ble_eq_true rfl⟩ ⟨Nat.le_refl _, Nat.le_refl _⟩ (Nat.le_of_ble_eq_true rfl) rfl dX12_marked_26 (fun H locs hH => ?_)
      refine lv_bipush (v := 10) hx hb dX12_marked_29 (by decide) ?_
      refine lv_icmp_lt (tgt := 64) hx hb dX12_marked_31 (by decide) (fun c31 => ?_) (fun c31 => ?_)
      · exact kJ23 _ _ _ (hH.eq rfl) (lv_eq (lv_sub hl [2, 3, 1, 0] rfl) (lc_s (lc_s (lc_i (by first | exact (cI_f (fun z => absurd z.1 (Int32.not_le.mpr c31))).symm | exact (cI_f (fun z => c47 z.2)).symm | exact (cI_t ⟨Int32.not_lt.mp c31, c47⟩).symm : 0 = (mk1 β bj 1 0)) (lc_s rfl)))))
      · refine lv_aload_n hx hb dX12_marked_34 rfl (lv_at hl 2 rfl) ?_
        refine lv_aload_n hx hb dX12_marked_35 rfl (lv_at hl 2 rfl) ?_
        refine lv_iload_n hx hb dX12_marked_36 rfl (lv_at hl 3 rfl) ?_
        refine lv_iload_n hx hb dX12_marked_37 rfl (lv_at hl 0 rfl) ?_
        refine x_callVA (ws' := WM G ad σ) (As := [.int b, .int 1]) (rest := [.ref (ad 0)]) (st' := [.int (nm β bj 1), .ref (ad 0)]) hC hK hZ hA hl.1 hH (k_X12_get l G ad σ b 1 β bj 1 hR hbN rfl hbk (by decide)) lk_X12_96 rfl 0 11 rfl rfl rfl ⟨Nat.le_of_ble_eq_true rfl, Nat.le_of_ble_eq_true rfl⟩ ⟨Nat.le_refl _, Nat.le_refl _⟩ (Nat.le_of_ble_eq_true rfl) rfl dX12_marked_38 (fun H locs hH => ?_)
        refine lv_bipush (v := 10) hx hb dX12_marked_41 (by decide) ?_
        refine lv_isub hx hb dX12_marked_43 ?_
        refine x_callVA (ws' := WM G ad σ) (As := [.int ((nm β bj 1) - 10)]) (rest := []) (st' := [.int (bI (0 ≤ ((nm β bj 1) - 10) ∧ ((nm β bj 1) - 10) < nI (bK β)))]) hC hK hZ hA hl.1 hH (k_X12_isBet l G ad σ ((nm β bj 1) - 10) β hR) lk_X12_93 rfl 0 11 rfl rfl rfl ⟨Nat.le_of_ble_eq_true rfl, Nat.le_of_ble_eq_true rfl⟩ ⟨Nat.le_refl _, Nat.le_refl _⟩ (Nat.le_of_ble_eq_true rfl) rfl dX12_marked_44 (fun H locs hH => ?_)
        refine x_beq (tgt := 64) hC dX12_marked_47 (by decide) (fun c47 => ?_) (fun c47 => ?_)
        · exact kJ23 _ _ _ (hH.eq rfl) (lv_eq (lv_sub hl [2, 3, 1, 0] rfl) (lc_s (lc_s (lc_i (by first | exact (cI_f (fun z => absurd z.1 (Int32.not_le.mpr c31))).symm | exact (cI_f (fun z => c47 z.2)).symm | exact (cI_t ⟨Int32.not_lt.mp c31, c47⟩).symm : 0 = (mk1 β bj 1 0)) (lc_s rfl)))))
        · refine lv_iload_n hx hb dX12_marked_50 rfl (lv_at hl 1 rfl) ?_
          refine lv_iconst (v := 1) hx hb dX12_marked_51 (by decide) ?_
          refine lv_aload_n hx hb dX12_marked_52 rfl (lv_at hl 2 rfl) ?_
          refine lv_iload_n hx hb dX12_marked_53 rfl (lv_at hl 3 rfl) ?_
          refine lv_iload_n hx hb dX12_marked_54 rfl (lv_at hl 0 rfl) ?_
          refine x_callVA (ws' := WM G ad σ) (As := [.int b, .int 1]) (rest := [.int 1, .int 0]) (st' := [.int (nm β bj 1), .int 1, .int 0]) hC hK hZ hA hl.1 hH (k_X12_get l G ad σ b 1 β bj 1 hR hbN rfl hbk (by decide)) lk_X12_96 rfl 0 11 rfl rfl rfl ⟨Nat.le_of_ble_eq_true rfl, Nat.le_of_ble_eq_true rfl⟩ ⟨Nat.le_refl _, Nat.le_refl _⟩ (Nat.le_of_ble_eq_true rfl) rfl dX12_marked_55 (fun H locs hH => ?_)
          refine lv_bipush (v := 10) hx hb dX12_marked_58 (by decide) ?_
          refine lv_isub hx hb dX12_marked_60 ?_
          refine lv_ishl hx hb dX12_marked_61 ?_
          refine lv_ior hx hb dX12_marked_62 ?_
          refine lv_istore_n (lv' := [(2, .int ((0 : Int32) ||| ((1 : Int32) <<< (((nm β bj 1) - 10) &&& 31)))), (3, .int 1), (0, .ref (ad 0)), (1, .int b)]) hx hb dX12_marked_63 rfl hl (by decide) rfl (fun ls hl => ?_)
          exact kJ23 _ _ _ (hH.eq rfl) (lv_eq (lv_sub hl [2, 3, 0, 1] rfl) (lc_s (lc_s (lc_i (by first | exact (cI_f (fun z => absurd z.1 (Int32.not_le.mpr c31))).symm | exact (cI_f (fun z => c47 z.2)).symm | exact (cI_t ⟨Int32.not_lt.mp c31, c47⟩).symm : ((0 : Int32) ||| ((1 : Int32) <<< (((nm β bj 1) - 10) &&& 31))) = (mk1 β bj 1 0)) (lc_s rfl)))))
  · refine lv_iconst (v := 1) hx hb dX12_marked_15 (by decide) ?_
    refine lv_goto (tgt := 20) hx hb dX12_marked_16 (by decide) ?_
    have k1_ := c12
    refine lv_icmp_gt (tgt := 70) hx hb dX12_marked_20 (by decide) (fun c20 => ?_) (fun c20 => ?_)
    · exact absurd c20 (by decide)
    refine x_meet1 (G := G) (A := A) (H0 := sS.heap) (nL := 4) (WM G ad σ) [(0, .ref (ad 0)), (1, .int b), (2, .int (mk1 β bj 1 0)), (3, .int 1)] 64 [] ?_ ?_
    · intro H locs ls hH hl
      refine lv_iinc (v := 2) (lv' := [(3, .int 2), (0, .ref (ad 0)), (1, .int b), (2, .int (mk1 β bj 1 0))]) hx hb dX12_marked_64 hl (k := 3) rfl (by decide) (by decide) rfl (fun ls hl => ?_)
      refine lv_goto (tgt := 4) hx hb dX12_marked_67 (by decide) ?_
      refine lv_iload_n hx hb dX12_marked_4 rfl (lv_at hl 0 rfl) ?_
      refine lv_aload_n hx hb dX12_marked_5 rfl (lv_at hl 1 rfl) ?_
      refine lv_iload_n hx hb dX12_marked_6 rfl (lv_at hl 2 rfl) ?_
      refine lv_iconst (v := 0) hx hb dX12_marked_7 (by decide) ?_
      refine x_callVA (ws' := WM G ad σ) (As := [.int b, .int 0]) (rest := [.int 2]) (st' := [.int (nm β bj 0), .int 2]) hC hK hZ hA hl.1 hH (k_X12_get l G ad σ b 0 β bj 0 hR hbN rfl hbk (by decide)) lk_X12_96 rfl 0 11 rfl rfl rfl ⟨Nat.le_of_ble_eq_true rfl, Nat.le_of_ble_eq_true rfl⟩ ⟨Nat.le_refl _, Nat.le_refl _⟩ (Nat.le_of_ble_eq_true rfl) rfl dX12_marked_8 (fun H locs hH => ?_)
      refine lv_iconst (v := 2) hx hb dX12_marked_11 (by decide) ?_
      refine lv_icmp_ge (tgt := 19) hx hb dX12_marked_12 (by decide) (fun c12 => ?_) (fun c12 => ?_)
      · exact absurd c12 k1_
      refine lv_iconst (v := 1) hx hb dX12_marked_15 (by decide) ?_
      refine lv_goto (tgt := 20) hx hb dX12_marked_16 (by decide) ?_
      have k1_ := c12
      refine lv_icmp_gt (tgt := 70) hx hb dX12_marked_20 (by decide) (fun c20 => ?_) (fun c20 => ?_)
      rotate_left
      · exact absurd c20 (by decide)
      refine lv_iload_n hx hb dX12_marked_70 rfl (lv_at hl 3 rfl) ?_
      exact x_iret hC hr hkL hH (by first | exact if_pos k1_ | exact if_neg k1_) rfl dX12_marked_71
    · intro kJ23
      refine lv_aload_n hx hb dX12_marked_23 rfl (lv_at hl 2 rfl) ?_
      refine lv_iload_n hx hb dX12_marked_24 rfl (lv_at hl 3 rfl) ?_
      refine lv_iload_n hx hb dX12_marked_25 rfl (lv_at hl 0 rfl) ?_
      refine x_callVA (ws' := WM G ad σ) (As := [.int b, .int 1]) (rest := []) (st' := [.int (nm β bj 1)]) hC hK hZ hA hl.1 hH (k_X12_get l G ad σ b 1 β bj 1 hR hbN rfl hbk (by decide)) lk_X12_96 rfl 0 11 rfl rfl rfl ⟨Nat.le_of_ble_eq_true rfl, Nat.le_of_ble_eq_true rfl⟩ ⟨Nat.le_refl _, Nat.le_refl _⟩ (Nat.le_of_ble_eq_true rfl) rfl dX12_marked_26 (fun H locs hH => ?_)
      refine lv_bipush (v := 10) hx hb dX12_marked_29 (by decide) ?_
      refine lv_icmp_lt (tgt := 64) hx hb dX12_marked_31 (by decide) (fun c31 => ?_) (fun c31 => ?_)
      · exact kJ23 _ _ _ (hH.eq rfl) (lv_eq (lv_sub hl [2, 3, 1, 0] rfl) (lc_s (lc_s (lc_i (by first | exact (cI_f (fun z => absurd z.1 (Int32.not_le.mpr c31))).symm | exact (cI_f (fun z => c47 z.2)).symm | exact (cI_t ⟨Int32.not_lt.mp c31, c47⟩).symm : 0 = (mk1 β bj 1 0)) (lc_s rfl)))))
      · refine lv_aload_n hx hb dX12_marked_34 rfl (lv_at hl 2 rfl) ?_
        refine lv_aload_n hx hb dX12_marked_35 rfl (lv_at hl 2 rfl) ?_
        refine lv_iload_n hx hb dX12_marked_36 rfl (lv_at hl 3 rfl) ?_
        refine lv_iload_n hx hb dX12_marked_37 rfl (lv_at hl 0 rfl) ?_
        refine x_callVA (ws' := WM G ad σ) (As := [.int b, .int 1]) (rest := [.ref (ad 0)]) (st' := [.int (nm β bj 1), .ref (ad 0)]) hC hK hZ hA hl.1 hH (k_X12_get l G ad σ b 1 β bj 1 hR hbN rfl hbk (by decide)) lk_X12_96 rfl 0 11 rfl rfl rfl ⟨Nat.le_of_ble_eq_true rfl, Nat.le_of_ble_eq_true rfl⟩ ⟨Nat.le_refl _, Nat.le_refl _⟩ (Nat.le_of_ble_eq_true rfl) rfl dX12_marked_38 (fun H locs hH => ?_)
        refine lv_bipush (v := 10) hx hb dX12_marked_41 (by decide) ?_
        refine lv_isub hx hb dX12_marked_43 ?_
        refine x_callVA (ws' := WM G ad σ) (As := [.int ((nm β bj 1) - 10)]) (rest := []) (st' := [.int (bI (0 ≤ ((nm β bj 1) - 10) ∧ ((nm β bj 1) - 10) < nI (bK β)))]) hC hK hZ hA hl.1 hH (k_X12_isBet l G ad σ ((nm β bj 1) - 10) β hR) lk_X12_93 rfl 0 11 rfl rfl rfl ⟨Nat.le_of_ble_eq_true rfl, Nat.le_of_ble_eq_true rfl⟩ ⟨Nat.le_refl _, Nat.le_refl _⟩ (Nat.le_of_ble_eq_true rfl) rfl dX12_marked_44 (fun H locs hH => ?_)
        refine x_beq (tgt := 64) hC dX12_marked_47 (by decide) (fun c47 => ?_) (fun c47 => ?_)
        · exact kJ23 _ _ _ (hH.eq rfl) (lv_eq (lv_sub hl [2, 3, 1, 0] rfl) (lc_s (lc_s (lc_i (by first | exact (cI_f (fun z => absurd z.1 (Int32.not_le.mpr c31))).symm | exact (cI_f (fun z => c47 z.2)).symm | exact (cI_t ⟨Int32.not_lt.mp c31, c47⟩).symm : 0 = (mk1 β bj 1 0)) (lc_s rfl)))))
        · refine lv_iload_n hx hb dX12_marked_50 rfl (lv_at hl 1 rfl) ?_
          refine lv_iconst (v := 1) hx hb dX12_marked_51 (by decide) ?_
          refine lv_aload_n hx hb dX12_marked_52 rfl (lv_at hl 2 rfl) ?_
          refine lv_iload_n hx hb dX12_marked_53 rfl (lv_at hl 3 rfl) ?_
          refine lv_iload_n hx hb dX12_marked_54 rfl (lv_at hl 0 rfl) ?_
          refine x_callVA (ws' := WM G ad σ) (As := [.int b, .int 1]) (rest := [.int 1, .int 0]) (st' := [.int (nm β bj 1), .int 1, .int 0]) hC hK hZ hA hl.1 hH (k_X12_get l G ad σ b 1 β bj 1 hR hbN rfl hbk (by decide)) lk_X12_96 rfl 0 11 rfl rfl rfl ⟨Nat.le_of_ble_eq_true rfl, Nat.le_of_ble_eq_true rfl⟩ ⟨Nat.le_refl _, Nat.le_refl _⟩ (Nat.le_of_ble_eq_true rfl) rfl dX12_marked_55 (fun H locs hH => ?_)
          refine lv_bipush (v := 10) hx hb dX12_marked_58 (by decide) ?_
          refine lv_isub hx hb dX12_marked_60 ?_
          refine lv_ishl hx hb dX12_marked_61 ?_
          refine lv_ior hx hb dX12_marked_62 ?_
          refine lv_istore_n (lv' := [(2, .int ((0 : Int32) ||| ((1 : Int32) <<< (((nm β bj 1) - 10) &&& 31)))), (3, .int 1), (0, .ref (ad 0)), (1, .int b)]) hx hb dX12_marked_63 rfl hl (by decide) rfl (fun ls hl => ?_)
          exact kJ23 _ _ _ (hH.eq rfl) (lv_eq (lv_sub hl [2, 3, 0, 1] rfl) (lc_s (lc_s (lc_i (by first | exact (cI_f (fun z => absurd z.1 (Int32.not_le.mpr c31))).symm | exact (cI_f (fun z => c47 z.2)).symm | exact (cI_t ⟨Int32.not_lt.mp c31, c47⟩).symm : ((0 : Int32) ||| ((1 : Int32) <<< (((nm β bj 1) - 10) &&& 31))) = (mk1 β bj 1 0)) (lc_s rfl)))))
set_option maxHeartbeats 4000000 in
set_option maxRecDepth 100000 in
theorem k_X12_rings (l : Launch) (G : GP) (ad : Nat → Nat) (σ : Nat → Nat → Int32) (β : Bk) (hR : RB (σ 2) β) : CT l G yX12_rings cX12_rings 6 (some .int) 3 [.ref (ad 0)] (WM G ad σ) (some (.int (rgA β (bK β)))) (WM G ad σ) := by
  refine x_meth "BetsOnBetsModel" rfl (by decide +kernel) (by rfl) (Nat.le_of_ble_eq_true rfl) ?_
  intro pP eE sS mM args below meth cC A ls hC hr hkL hK hZ hA hH hl
  have hx := hC.1
  have hb := hC.2.1
  have hl : lv_has ls 6 [(0, .ref (ad 0))] := hl
  have hh4 := hR.2.2.1
  have hk6 := hR.2.2.2.1
  have pwh := pw4 hh4
  have pwk := pw6 hk6
  refine lv_iconst (v := 0) hx hb dX12_rings_0 (by decide) ?_
  refine lv_istore_n (lv' := [(1, .int 0), (0, .ref (ad 0))]) hx hb dX12_rings_1 rfl hl (by decide) rfl (fun ls hl => ?_)
  refine lv_iconst (v := 0) hx hb dX12_rings_2 (by decide) ?_
  refine lv_istore_n (lv' := [(2, .int 0), (1, .int 0), (0, .ref (ad 0))]) hx hb dX12_rings_3 rfl hl (by decide) rfl (fun ls hl => ?_)
  refine x_loop (G := G) (A := A) (H0 := sS.heap) (nL := 6) (α := Nat) (fun q_ => (bK β) - q_) (fun q_ => q_ ≤ (bK β)) (fun q_ => WM G ad σ) (fun q_ => [(0, .ref (ad 0)), (1, .int (rgA β q_)), (2, .int (nI q_))]) ?_ 0 (show 0 ≤ (bK β) from (Nat.zero_le _)) ?_ ?_
  · rintro b hi_b ih_b H locs ls hH hl
    replace hi_b : b ≤ (bK β) := hi_b
    replace hH : Hx G A (WM G ad σ) sS.heap H locs := hH
    replace hl : lv_has ls 6 [(0, .ref (ad 0)), (1, .int (rgA β b)), (2, .int (nI b))] := hl
    refine lv_iload_n hx hb dX12_rings_4 rfl (lv_at hl 2 rfl) ?_
    refine lv_aload_n hx hb dX12_rings_5 rfl (lv_at hl 0 rfl) ?_
    refine gf_X12_13 (v := .ref (ad 2)) hC hK hH 0 rfl rfl dX12_rings_6 ?_
    refine lv_iconst (v := 1) hx hb dX12_rings_9 (by decide) ?_
    refine x_ialN (f := (σ 2)) hC hK hH 2 1 rfl rfl (by decide) (Nat.le_of_ble_eq_true rfl) dX12_rings_10 ?_
    refine lv_icmp_ge (tgt := 89) hx hb dX12_rings_11 (by decide) (fun c11 => ?_) (fun c11 => ?_)
    · have ge_b := lp_out (n := bK β) hR.2.1 (by omega) (by omega) c11
      have eq_b : b = bK β := by omega
      refine lv_iload_n hx hb dX12_rings_89 rfl (lv_at hl 1 rfl) ?_
      exact x_iret hC hr hkL hH (by rw [eq_b]) rfl dX12_rings_90
    · have lt_b := lp_in (n := bK β) hR.2.1 (by omega) (by omega) c11
      refine lv_aload_n hx hb dX12_rings_14 rfl (lv_at hl 0 rfl) ?_
      refine lv_iload_n hx hb dX12_rings_15 rfl (lv_at hl 2 rfl) ?_
      refine x_callVA (ws' := WM G ad σ) (As := [.int (nI b)]) (rest := []) (st' := [.int (mkA β b)]) hC hK hZ hA hl.1 hH (k_X12_marked l G ad σ (nI b) β b hR rfl (by omega)) lk_X12_167 rfl 0 11 rfl rfl rfl ⟨Nat.le_of_ble_eq_true rfl, Nat.le_of_ble_eq_true rfl⟩ ⟨Nat.le_refl _, Nat.le_refl _⟩ (Nat.le_of_ble_eq_true rfl) rfl dX12_rings_16 (fun H locs hH => ?_)
      refine lv_istore_n (lv' := [(3, .int (mkA β b)), (0, .ref (ad 0)), (1, .int (rgA β b)), (2, .int (nI b))]) hx hb dX12_rings_19 rfl hl (by decide) rfl (fun ls hl => ?_)
      refine lv_iconst (v := 0) hx hb dX12_rings_20 (by decide) ?_
      refine lv_istore (lv' := [(4, .int 0), (3, .int (mkA β b)), (0, .ref (ad 0)), (1, .int (rgA β b)), (2, .int (nI b))]) hx hb dX12_rings_21 hl (by decide) rfl (fun ls hl => ?_)
      refine x_loop (G := G) (A := A) (H0 := sS.heap) (nL := 6) (α := Nat) (fun q_ => 6 - q_) (fun q_ => q_ ≤ 6) (fun q_ => WM G ad σ) (fun q_ => [(0, .ref (ad 0)), (1, .int (rgA β b)), (2, .int (nI b)), (3, .int (rgO β (mkA β b) q_)), (4, .int (nI q_))]) ?_ 0 (show 0 ≤ 6 from (Nat.zero_le _)) ?_ ?_
      · rintro r hi_r ih_r H locs ls hH hl
        replace hi_r : r ≤ 6 := hi_r
        replace hH : Hx G A (WM G ad σ) sS.heap H locs := hH
        replace hl : lv_has ls 6 [(0, .ref (ad 0)), (1, .int (rgA β b)), (2, .int (nI b)), (3, .int (rgO β (mkA β b) r)), (4, .int (nI r))] := hl
        refine lv_iload hx hb dX12_rings_23 (lv_at hl 4 rfl) ?_
        refine lv_bipush (v := 6) hx hb dX12_rings_25 (by decide) ?_
        refine lv_icmp_ge (tgt := 75) hx hb dX12_rings_27 (by decide) (fun c27 => ?_) (fun c27 => ?_)
        · have ge_r := lp_out (n := 6) rfl (by omega) (by omega) c27
          have eq_r : r = 6 := by omega
          subst eq_r
          refine lv_iload_n hx hb dX12_rings_75 rfl (lv_at hl 1 rfl) ?_
          refine lv_iload_n hx hb dX12_rings_76 rfl (lv_at hl 3 rfl) ?_
          refine lv_iconst (v := 1) hx hb dX12_rings_77 (by decide) ?_
          refine lv_iload_n hx hb dX12_rings_78 rfl (lv_at hl 2 rfl) ?_
          refine lv_ishl hx hb dX12_rings_79 ?_
          refine lv_iand hx hb dX12_rings_80 ?_
          refine lv_ior hx hb dX12_rings_81 ?_
          refine lv_istore_n (lv' := [(1, .int ((rgA β b) ||| ((rgO β (mkA β b) 6) &&& ((1 : Int32) <<< ((nI b) &&& 31))))), (0, .ref (ad 0)), (2, .int (nI b)), (3, .int (rgO β (mkA β b) 6)), (4, .int (nI 6))]) hx hb dX12_rings_82 rfl hl (by decide) rfl (fun ls hl => ?_)
          refine lv_iinc (v := ((nI b) + 1)) (lv' := [(2, .int ((nI b) + 1)), (1, .int ((rgA β b) ||| ((rgO β (mkA β b) 6) &&& ((1 : Int32) <<< ((nI b) &&& 31))))), (0, .ref (ad 0)), (3, .int (rgO β (mkA β b) 6)), (4, .int (nI 6))]) hx hb dX12_rings_83 hl (k := 2) rfl rfl (by decide) rfl (fun ls hl => ?_)
          refine lv_goto (tgt := 4) hx hb dX12_rings_86 (by decide) ?_
          exact ih_b (b + 1) (show (b + 1) ≤ (bK β) from (by omega)) (show (bK β) - (b + 1) < (bK β) - b from (by omega)) _ _ _ (hH.eq rfl) (lv_eq (lv_sub hl [2, 1, 0] rfl) (lc_s (lc_i (by rfl : ((rgA β b) ||| ((rgO β (mkA β b) 6) &&& ((1 : Int32) <<< ((nI b) &&& 31)))) = (rgA β (b + 1))) (lc_i (by exact nI_1 _ : ((nI b) + 1) = (nI (b + 1))) rfl))))
        · have lt_r := lp_in (n := 6) rfl (by omega) (by omega) c27
          refine lv_iconst (v := 0) hx hb dX12_rings_30 (by decide) ?_
          refine lv_istore (lv' := [(5, .int 0), (0, .ref (ad 0)), (1, .int (rgA β b)), (2, .int (nI b)), (3, .int (rgO β (mkA β b) r)), (4, .int (nI r))]) hx hb dX12_rings_31 hl (by decide) rfl (fun ls hl => ?_)
          refine x_loop (G := G) (A := A) (H0 := sS.heap) (nL := 6) (α := Nat) (fun q_ => (bK β) - q_) (fun q_ => q_ ≤ (bK β)) (fun q_ => WM G ad σ) (fun q_ => [(0, .ref (ad 0)), (1, .int (rgA β b)), (2, .int (nI b)), (3, .int (rgI β (rgO β (mkA β b) r) q_)), (4, .int (nI r)), (5, .int (nI q_))]) ?_ 0 (show 0 ≤ (bK β) from (Nat.zero_le _)) ?_ ?_
          · rintro o hi_o ih_o H locs ls hH hl
            replace hi_o : o ≤ (bK β) := hi_o
            replace hH : Hx G A (WM G ad σ) sS.heap H locs := hH
            replace hl : lv_has ls 6 [(0, .ref (ad 0)), (1, .int (rgA β b)), (2, .int (nI b)), (3, .int (rgI β (rgO β (mkA β b) r) o)), (4, .int (nI r)), (5, .int (nI o))] := hl
            refine lv_iload hx hb dX12_rings_33 (lv_at hl 5 rfl) ?_
            refine lv_aload_n hx hb dX12_rings_35 rfl (lv_at hl 0 rfl) ?_
            refine gf_X12_13 (v := .ref (ad 2)) hC hK hH 0 rfl rfl dX12_rings_36 ?_
            refine lv_iconst (v := 1) hx hb dX12_rings_39 (by decide) ?_
            refine x_ialN (f := (σ 2)) hC hK hH 2 1 rfl rfl (by decide) (Nat.le_of_ble_eq_true rfl) dX12_rings_40 ?_
            refine lv_icmp_ge (tgt := 69) hx hb dX12_rings_41 (by decide) (fun c41 => ?_) (fun c41 => ?_)
            · have ge_o := lp_out (n := bK β) hR.2.1 (by omega) (by omega) c41
              have eq_o : o = bK β := by omega
              refine lv_iinc (v := ((nI r) + 1)) (lv' := [(4, .int ((nI r) + 1)), (0, .ref (ad 0)), (1, .int (rgA β b)), (2, .int (nI b)), (3, .int (rgI β (rgO β (mkA β b) r) o)), (5, .int (nI o))]) hx hb dX12_rings_69 hl (k := 4) rfl rfl (by decide) rfl (fun ls hl => ?_)
              refine lv_goto (tgt := 23) hx hb dX12_rings_72 (by decide) ?_
              exact ih_r (r + 1) (show (r + 1) ≤ 6 from (by omega)) (show 6 - (r + 1) < 6 - r from (by omega)) _ _ _ (hH.eq rfl) (lv_eq (lv_sub hl [1, 2, 3, 4, 0] rfl) (lc_s (lc_s (lc_s (lc_i (by rw [eq_o]; rfl : (rgI β (rgO β (mkA β b) r) o) = (rgO β (mkA β b) (r + 1))) (lc_i (by exact nI_1 _ : ((nI r) + 1) = (nI (r + 1))) rfl))))))
            · have lt_o := lp_in (n := bK β) hR.2.1 (by omega) (by omega) c41
              refine lv_iload_n hx hb dX12_rings_44 rfl (lv_at hl 3 rfl) ?_
              refine lv_iload hx hb dX12_rings_45 (lv_at hl 5 rfl) ?_
              refine lv_ishr hx hb dX12_rings_47 ?_
              refine lv_iconst (v := 1) hx hb dX12_rings_48 (by decide) ?_
              refine lv_iand hx hb dX12_rings_49 ?_
              refine lv_iconst (v := 1) hx hb dX12_rings_50 (by decide) ?_
              refine lv_icmp_ne (tgt := 63) hx hb dX12_rings_51 (by decide) (fun c51 => ?_) (fun c51 => ?_)
              · refine lv_iinc (v := ((nI o) + 1)) (lv' := [(5, .int ((nI o) + 1)), (0, .ref (ad 0)), (1, .int (rgA β b)), (2, .int (nI b)), (3, .int (rgI β (rgO β (mkA β b) r) o)), (4, .int (nI r))]) hx hb dX12_rings_63 hl (k := 5) rfl rfl (by decide) rfl (fun ls hl => ?_)
                refine lv_goto (tgt := 33) hx hb dX12_rings_66 (by decide) ?_
                exact ih_o (o + 1) (show (o + 1) ≤ (bK β) from (by omega)) (show (bK β) - (o + 1) < (bK β) - o from (by omega)) _ _ _ (hH.eq rfl) (lv_eq (lv_sub hl [1, 2, 3, 4, 5, 0] rfl) (lc_s (lc_s (lc_s (lc_i (by first | (rw [rgI_t c51]; done) | (rw [rgI_f c51]; done) : (rgI β (rgO β (mkA β b) r) o) = (rgI β (rgO β (mkA β b) r) (o + 1))) (lc_s (lc_i (by exact nI_1 _ : ((nI o) + 1) = (nI (o + 1))) rfl)))))))
              · refine lv_iload_n hx hb dX12_rings_54 rfl (lv_at hl 3 rfl) ?_
                refine lv_aload_n hx hb dX12_rings_55 rfl (lv_at hl 0 rfl) ?_
                refine lv_iload hx hb dX12_rings_56 (lv_at hl 5 rfl) ?_
                refine x_callVA (ws' := WM G ad σ) (As := [.int (nI o)]) (rest := [.int (rgI β (rgO β (mkA β b) r) o)]) (st' := [.int (mkA β o), .int (rgI β (rgO β (mkA β b) r) o)]) hC hK hZ hA hl.1 hH (k_X12_marked l G ad σ (nI o) β o hR rfl (by omega)) lk_X12_167 rfl 0 11 rfl rfl rfl ⟨Nat.le_of_ble_eq_true rfl, Nat.le_of_ble_eq_true rfl⟩ ⟨Nat.le_refl _, Nat.le_refl _⟩ (Nat.le_of_ble_eq_true rfl) rfl dX12_rings_58 (fun H locs hH => ?_)
                refine lv_ior hx hb dX12_rings_61 ?_
                refine lv_istore_n (lv' := [(3, .int ((rgI β (rgO β (mkA β b) r) o) ||| (mkA β o))), (0, .ref (ad 0)), (1, .int (rgA β b)), (2, .int (nI b)), (4, .int (nI r)), (5, .int (nI o))]) hx hb dX12_rings_62 rfl hl (by decide) rfl (fun ls hl => ?_)
                refine lv_iinc (v := ((nI o) + 1)) (lv' := [(5, .int ((nI o) + 1)), (3, .int ((rgI β (rgO β (mkA β b) r) o) ||| (mkA β o))), (0, .ref (ad 0)), (1, .int (rgA β b)), (2, .int (nI b)), (4, .int (nI r))]) hx hb dX12_rings_63 hl (k := 5) rfl rfl (by decide) rfl (fun ls hl => ?_)
                refine lv_goto (tgt := 33) hx hb dX12_rings_66 (by decide) ?_
                exact ih_o (o + 1) (show (o + 1) ≤ (bK β) from (by omega)) (show (bK β) - (o + 1) < (bK β) - o from (by omega)) _ _ _ (hH.eq rfl) (lv_eq (lv_sub hl [2, 3, 4, 1, 5, 0] rfl) (lc_s (lc_s (lc_s (lc_i (by first | (rw [rgI_t c51]; done) | (rw [rgI_f c51]; done) : ((rgI β (rgO β (mkA β b) r) o) ||| (mkA β o)) = (rgI β (rgO β (mkA β b) r) (o + 1))) (lc_s (lc_i (by exact nI_1 _ : ((nI o) + 1) = (nI (o + 1))) rfl)))))))
          · exact hH.eq rfl
          · exact lv_eq (lv_sub hl [1, 2, 3, 4, 5, 0] rfl) (lc_s (lc_s (lc_s (lc_i (by rfl : (rgO β (mkA β b) r) = (rgI β (rgO β (mkA β b) r) 0)) (lc_s (lc_i (by rfl : 0 = (nI 0)) rfl))))))
      · exact hH.eq rfl
      · exact lv_eq (lv_sub hl [2, 3, 4, 1, 0] rfl) (lc_s (lc_s (lc_s (lc_i (by rfl : mkA β b = (rgO β (mkA β b) 0)) (lc_i (by rfl : 0 = (nI 0)) rfl)))))
  · exact hH.eq rfl
  · exact lv_eq (lv_sub hl [2, 1, 0] rfl) (lc_s (lc_i (by rfl : 0 = (rgA β 0)) (lc_i (by rfl : 0 = (nI 0)) rfl)))
set_option maxHeartbeats 4000000 in
set_option maxRecDepth 100000 in
theorem k_X12_wrongIn (l : Launch) (G : GP) (ad : Nat → Nat) (σ : Nat → Nat → Int32) (e : Int32) (β : Bk) (n : Nat) (hR : RB (σ 2) β) (hn : (σ 0 14) = nI n) (hn4 : n ≤ 4) : CTE l G yX12_wrongIn cX12_wrongIn 3 (some .int) 5 [.ref (ad 0), .int e] (WM G ad σ) (some (.int (wrA β (σ 7) n e))) (fun z => WM G ad (ua σ 0 (upd (upd (upd (upd (σ 0) 9 (z 0 9)) 10 (z 0 10)) 11 (z 0 11)) 12 (z 0 12)))) := by
  refine x_methE "BetsOnBetsModel" rfl (by decide +kernel) (fun z => by rfl) (Nat.le_of_ble_eq_true rfl) ?_
  intro pP eE sS mM args below meth cC A ls hC hr hkL hK hZ hA hH hl
  have hx := hC.1
  have hb := hC.2.1
  have hl : lv_has ls 3 [(0, .ref (ad 0)), (1, .int e)] := hl
  have hh4 := hR.2.2.1
  have hk6 := hR.2.2.2.1
  have pwh := pw4 hh4
  have pwk := pw6 hk6
  refine lv_iconst (v := 0) hx hb dX12_wrongIn_0 (by decide) ?_
  refine lv_istore_n (lv' := [(2, .int 0), (0, .ref (ad 0)), (1, .int e)]) hx hb dX12_wrongIn_1 rfl hl (by decide) rfl (fun ls hl => ?_)
  refine x_loop (G := G) (A := A) (H0 := sS.heap) (nL := 3) (α := Nat × (Nat → Nat → Int32)) (fun q_ => n - q_.1) (fun q_ => q_.1 ≤ n ∧ wrS β (σ 7) e n (n - q_.1) = wrA β (σ 7) n e) (fun q_ => WM G ad (ua σ 0 (upd (upd (upd (upd (σ 0) 9 (q_.2 0 9)) 10 (q_.2 0 10)) 11 (q_.2 0 11)) 12 (q_.2 0 12)))) (fun q_ => [(0, .ref (ad 0)), (1, .int e), (2, .int (nI q_.1))]) ?_ (0, σ) (show 0 ≤ n ∧ wrS β (σ 7) e n (n - 0) = wrA β (σ 7) n e from ⟨by omega, rfl⟩) ?_ ?_
  · rintro ⟨p, z_p⟩ hi_p ih_p H locs ls hH hl
    replace hi_p : p ≤ n ∧ wrS β (σ 7) e n (n - p) = wrA β (σ 7) n e := hi_p
    replace hH : Hx G A (WM G ad (ua σ 0 (upd (upd (upd (upd (σ 0) 9 (z_p 0 9)) 10 (z_p 0 10)) 11 (z_p 0 11)) 12 (z_p 0 12)))) sS.heap H locs := hH
    replace hl : lv_has ls 3 [(0, .ref (ad 0)), (1, .int e), (2, .int (nI p))] := hl
    have hi_p1 := hi_p.1
    refine lv_iload_n hx hb dX12_wrongIn_2 rfl (lv_at hl 2 rfl) ?_
    refine lv_aload_n hx hb dX12_wrongIn_3 rfl (lv_at hl 0 rfl) ?_
    refine gf_X12_170 (v := .int (σ 0 14)) hC hK hH 0 rfl rfl dX12_wrongIn_4 ?_
    refine lv_icmp_ge (tgt := 37) hx hb dX12_wrongIn_7 (by decide) (fun c7 => ?_) (fun c7 => ?_)
    · have ge_p := lp_out (n := n) hn (by omega) (by omega) c7
      have eq_p : p = n := by omega
      refine lv_bipush (v := (-9)) hx hb dX12_wrongIn_37 (by decide) ?_
      exact x_iretE (ua σ 0 (upd (upd (upd (upd (σ 0) 9 (z_p 0 9)) 10 (z_p 0 10)) 11 (z_p 0 11)) 12 (z_p 0 12))) hC hr hkL hH (by rw [← hi_p.2, eq_p, Nat.sub_self]; rfl) rfl dX12_wrongIn_39
    · have lt_p := lp_in (n := n) hn (by omega) (by omega) c7
      refine lv_aload_n hx hb dX12_wrongIn_10 rfl (lv_at hl 0 rfl) ?_
      refine gf_X12_28 (v := .ref (ad 7)) hC hK hH 0 rfl rfl dX12_wrongIn_11 ?_
      refine lv_iload_n hx hb dX12_wrongIn_14 rfl (lv_at hl 2 rfl) ?_
      refine x_ialN (f := (σ 7)) hC hK hH 7 p rfl rfl (by omega) (Nat.le_of_ble_eq_true rfl) dX12_wrongIn_15 ?_
      refine lv_aload_n hx hb dX12_wrongIn_16 rfl (lv_at hl 0 rfl) ?_
      refine lv_iload_n hx hb dX12_wrongIn_17 rfl (lv_at hl 2 rfl) ?_
      refine lv_iload_n hx hb dX12_wrongIn_18 rfl (lv_at hl 1 rfl) ?_
      refine x_callVAE (wg := fun z19 => WM G ad (ua σ 0 (upd (upd (upd (upd (σ 0) 9 (z19 0 9)) 10 (z19 0 10)) 11 (z19 0 11)) 12 (z19 0 12)))) (As := [.int (nI p), .int e]) (rest := [.int ((σ 7) p)]) (st' := [.int (purA β (nI p) e), .int ((σ 7) p)]) hC hK hZ hA hl.1 hH (k_X12_purseOf l G ad (ua σ 0 (upd (upd (upd (upd (σ 0) 9 (z_p 0 9)) 10 (z_p 0 10)) 11 (z_p 0 11)) 12 (z_p 0 12))) (nI p) e β hR) lk_X12_132 rfl 0 11 rfl rfl rfl ⟨Nat.le_of_ble_eq_true rfl, Nat.le_of_ble_eq_true rfl⟩ ⟨Nat.le_refl _, Nat.le_refl _⟩ (Nat.le_of_ble_eq_true rfl) rfl dX12_wrongIn_19 (fun z19 H locs hH => ?_)
      refine lv_sipush (v := 500) hx hb dX12_wrongIn_22 (by decide) ?_
      refine lv_iadd hx hb dX12_wrongIn_25 ?_
      refine lv_icmp_eq (tgt := 31) hx hb dX12_wrongIn_26 (by decide) (fun c26 => ?_) (fun c26 => ?_)
      · refine lv_iinc (v := ((nI p) + 1)) (lv' := [(2, .int ((nI p) + 1)), (0, .ref (ad 0)), (1, .int e)]) hx hb dX12_wrongIn_31 hl (k := 2) rfl rfl (by decide) rfl (fun ls hl => ?_)
        refine lv_goto (tgt := 2) hx hb dX12_wrongIn_34 (by decide) ?_
        exact ih_p ((p + 1), (ua σ 0 (upd (upd (upd (upd (σ 0) 9 (z19 0 9)) 10 (z19 0 10)) 11 (z19 0 11)) 12 (z19 0 12)))) (show (p + 1) ≤ n ∧ wrS β (σ 7) e n (n - (p + 1)) = wrA β (σ 7) n e from ⟨by omega, by rw [← wrS_t lt_p c26]; exact hi_p.2⟩) (show n - (p + 1) < n - p from (by omega)) _ _ _ (hH.eq rfl) (lv_eq (lv_sub hl [1, 2, 0] rfl) (lc_s (lc_s (lc_i (by first | rfl | exact nI_1 _ | simp : ((nI p) + 1) = (nI (p + 1))) rfl))))
      · refine lv_iload_n hx hb dX12_wrongIn_29 rfl (lv_at hl 2 rfl) ?_
        exact x_iretE (ua σ 0 (upd (upd (upd (upd (σ 0) 9 (z19 0 9)) 10 (z19 0 10)) 11 (z19 0 11)) 12 (z19 0 12))) hC hr hkL hH (by rw [← hi_p.2, wrS_f lt_p c26]) rfl dX12_wrongIn_30
  · exact hH.eq rfl
  · exact lv_eq (lv_sub hl [1, 2, 0] rfl) (lc_s (lc_s (lc_i (by rfl : 0 = (nI 0)) rfl)))
set_option maxHeartbeats 4000000 in
set_option maxRecDepth 100000 in
theorem k_X12_fitting (l : Launch) (G : GP) (ad : Nat → Nat) (σ : Nat → Nat → Int32) (w : Int32) (β : Bk) (n : Nat) (hR : RB (σ 2) β) (hn : (σ 0 14) = nI n) (hn4 : n ≤ 4) : CTE l G yX12_fitting cX12_fitting 4 (some .int) 6 [.ref (ad 0), .int w] (WM G ad σ) (some (.int (rfA (fitC w) (fitA β (σ 7) n w)))) (fun z => WM G ad (ua (ua σ 0 (upd (upd (upd (upd (σ 0) 9 (z 0 9)) 10 (z 0 10)) 11 (z 0 11)) 12 (z 0 12))) 1 (rfz (σ 1) (fitC w)))) := by
  refine x_methE "BetsOnBetsModel" rfl (by decide +kernel) (fun z => by rfl) (Nat.le_of_ble_eq_true rfl) ?_
  intro pP eE sS mM args below meth cC A ls hC hr hkL hK hZ hA hH hl
  have hx := hC.1
  have hb := hC.2.1
  have hl : lv_has ls 4 [(0, .ref (ad 0)), (1, .int w)] := hl
  have hh4 := hR.2.2.1
  have hk6 := hR.2.2.2.1
  have pwh := pw4 hh4
  have pwk := pw6 hk6
  refine lv_iload_n hx hb dX12_fitting_0 rfl (lv_at hl 1 rfl) ?_
  refine lv_iconst (v := 2) hx hb dX12_fitting_1 (by decide) ?_
  refine x_callS (ws' := WM G ad σ) (As := [.int w, .int 2]) (rest := []) (st' := [.int (bI (0 ≤ w ∧ w < 2))]) hC hK hZ hA hl.1 hH (k_X12_isIn l G (pk ad []) (pk σ []) w 2) lk_X12_31 [] rfl rfl rfl rfl ⟨Nat.le_of_ble_eq_true rfl, Nat.le_of_ble_eq_true rfl⟩ ⟨Nat.le_refl _, Nat.le_refl _⟩ (Nat.le_of_ble_eq_true rfl) rfl dX12_fitting_2 (fun H locs hH => ?_)
  refine x_bne (tgt := 15) hC dX12_fitting_5 (by decide) (fun c5 => ?_) (fun c5 => ?_)
  · refine lv_iconst (v := 0) hx hb dX12_fitting_15 (by decide) ?_
    refine lv_istore_n (lv' := [(2, .int 0), (0, .ref (ad 0)), (1, .int w)]) hx hb dX12_fitting_16 rfl hl (by decide) rfl (fun ls hl => ?_)
    refine lv_iconst (v := 0) hx hb dX12_fitting_17 (by decide) ?_
    refine lv_istore_n (lv' := [(3, .int 0), (2, .int 0), (0, .ref (ad 0)), (1, .int w)]) hx hb dX12_fitting_18 rfl hl (by decide) rfl (fun ls hl => ?_)
    refine x_loop (G := G) (A := A) (H0 := sS.heap) (nL := 4) (α := Nat × (Nat → Nat → Int32)) (fun q_ => (2 ^ bH β) - q_.1) (fun q_ => q_.1 ≤ (2 ^ bH β)) (fun q_ => WM G ad (ua σ 0 (upd (upd (upd (upd (σ 0) 9 (q_.2 0 9)) 10 (q_.2 0 10)) 11 (q_.2 0 11)) 12 (q_.2 0 12)))) (fun q_ => [(0, .ref (ad 0)), (1, .int w), (2, .int (nI (fiN β (σ 7) n q_.1))), (3, .int (nI q_.1))]) ?_ (0, σ) (show 0 ≤ (2 ^ bH β) from (Nat.zero_le _)) ?_ ?_
    · rintro ⟨e, z_e⟩ hi_e ih_e H locs ls hH hl
      replace hi_e : e ≤ (2 ^ bH β) := hi_e
      replace hH : Hx G A (WM G ad (ua σ 0 (upd (upd (upd (upd (σ 0) 9 (z_e 0 9)) 10 (z_e 0 10)) 11 (z_e 0 11)) 12 (z_e 0 12)))) sS.heap H locs := hH
      replace hl : lv_has ls 4 [(0, .ref (ad 0)), (1, .int w), (2, .int (nI (fiN β (σ 7) n e))), (3, .int (nI e))] := hl
      refine lv_iload_n hx hb dX12_fitting_19 rfl (lv_at hl 3 rfl) ?_
      refine lv_aload_n hx hb dX12_fitting_20 rfl (lv_at hl 0 rfl) ?_
      refine x_callVA (ws' := WM G ad (ua σ 0 (upd (upd (upd (upd (σ 0) 9 (z_e 0 9)) 10 (z_e 0 10)) 11 (z_e 0 11)) 12 (z_e 0 12)))) (As := []) (rest := [.int (nI e)]) (st' := [.int (nI (2 ^ bH β)), .int (nI e)]) hC hK hZ hA hl.1 hH (k_X12_ends l G ad (ua σ 0 (upd (upd (upd (upd (σ 0) 9 (z_e 0 9)) 10 (z_e 0 10)) 11 (z_e 0 11)) 12 (z_e 0 12))) β hR) lk_X12_35 rfl 0 11 rfl rfl rfl ⟨Nat.le_of_ble_eq_true rfl, Nat.le_of_ble_eq_true rfl⟩ ⟨Nat.le_refl _, Nat.le_refl _⟩ (Nat.le_of_ble_eq_true rfl) rfl dX12_fitting_21 (fun H locs hH => ?_)
      refine lv_icmp_ge (tgt := 51) hx hb dX12_fitting_24 (by decide) (fun c24 => ?_) (fun c24 => ?_)
      · have ge_e := lp_out (n := 2 ^ bH β) rfl (by omega) (by omega) c24
        have eq_e : e = 2 ^ bH β := by omega
        refine lv_iload_n hx hb dX12_fitting_51 rfl (lv_at hl 1 rfl) ?_
        refine lv_if_ne (tgt := 59) hx hb dX12_fitting_52 (by decide) (fun c52 => ?_) (fun c52 => ?_)
        · refine lv_iload_n hx hb dX12_fitting_59 rfl (lv_at hl 2 rfl) ?_
          refine x_callS (ws' := WM G ad (ua σ 0 (upd (upd (upd (upd (σ 0) 9 (z_e 0 9)) 10 (z_e 0 10)) 11 (z_e 0 11)) 12 (z_e 0 12)))) (As := [.int (nI (fiN β (σ 7) n e))]) (rest := []) (st' := [.int (nI (popc 16 (fiN β (σ 7) n (2 ^ bH β))))]) hC hK hZ hA hl.1 hH (k_X12_bits l G (pk ad []) (pk (ua σ 0 (upd (upd (upd (upd (σ 0) 9 (z_e 0 9)) 10 (z_e 0 10)) 11 (z_e 0 11)) 12 (z_e 0 12))) []) (nI (fiN β (σ 7) n e)) (fiN β (σ 7) n (2 ^ bH β)) (by rw [eq_e]) (by have h1 := fiN_lt β (σ 7) n (2 ^ bH β); have h2 := Nat.pow_le_pow_right (n := 2) (by omega) pwh; omega)) lk_X12_164 [] rfl rfl rfl rfl ⟨Nat.le_of_ble_eq_true rfl, Nat.le_of_ble_eq_true rfl⟩ ⟨Nat.le_refl _, Nat.le_refl _⟩ (Nat.le_of_ble_eq_true rfl) rfl dX12_fitting_60 (fun H locs hH => ?_)
          exact x_iretE (ua σ 0 (upd (upd (upd (upd (σ 0) 9 (z_e 0 9)) 10 (z_e 0 10)) 11 (z_e 0 11)) 12 (z_e 0 12))) hC hr hkL hH (by (refine (rfA0 (cI_t c5)).trans ?_); first | (rw [fitA, if_pos c52, eq_e]; done) | (rw [fitA, if_neg c52]; done)) ((congrArg (fun z_ : Nat → Int32 => WM G ad (ua (ua σ 0 (upd (upd (upd (upd (σ 0) 9 (z_e 0 9)) 10 (z_e 0 10)) 11 (z_e 0 11)) 12 (z_e 0 12))) 1 z_)) (by exact rfz0 (cI_t c5) : (rfz (σ 1) (fitC w)) = (σ 1))).trans (show WM G ad (ua (ua σ 0 (upd (upd (upd (upd (σ 0) 9 (z_e 0 9)) 10 (z_e 0 10)) 11 (z_e 0 11)) 12 (z_e 0 12))) 1 (σ 1)) = WM G ad (ua σ 0 (upd (upd (upd (upd (σ 0) 9 (z_e 0 9)) 10 (z_e 0 10)) 11 (z_e 0 11)) 12 (z_e 0 12))) from rfl)) dX12_fitting_63
        · refine lv_iload_n hx hb dX12_fitting_55 rfl (lv_at hl 2 rfl) ?_
          refine lv_goto (tgt := 63) hx hb dX12_fitting_56 (by decide) ?_
          exact x_iretE (ua σ 0 (upd (upd (upd (upd (σ 0) 9 (z_e 0 9)) 10 (z_e 0 10)) 11 (z_e 0 11)) 12 (z_e 0 12))) hC hr hkL hH (by (refine (rfA0 (cI_t c5)).trans ?_); first | (rw [fitA, if_pos c52, eq_e]; done) | (rw [fitA, if_neg c52]; done)) ((congrArg (fun z_ : Nat → Int32 => WM G ad (ua (ua σ 0 (upd (upd (upd (upd (σ 0) 9 (z_e 0 9)) 10 (z_e 0 10)) 11 (z_e 0 11)) 12 (z_e 0 12))) 1 z_)) (by exact rfz0 (cI_t c5) : (rfz (σ 1) (fitC w)) = (σ 1))).trans (show WM G ad (ua (ua σ 0 (upd (upd (upd (upd (σ 0) 9 (z_e 0 9)) 10 (z_e 0 10)) 11 (z_e 0 11)) 12 (z_e 0 12))) 1 (σ 1)) = WM G ad (ua σ 0 (upd (upd (upd (upd (σ 0) 9 (z_e 0 9)) 10 (z_e 0 10)) 11 (z_e 0 11)) 12 (z_e 0 12))) from rfl)) dX12_fitting_63
      · have lt_e := lp_in (n := 2 ^ bH β) rfl (by omega) (by omega) c24
        refine lv_iload_n hx hb dX12_fitting_27 rfl (lv_at hl 2 rfl) ?_
        refine lv_aload_n hx hb dX12_fitting_28 rfl (lv_at hl 0 rfl) ?_
        refine lv_iload_n hx hb dX12_fitting_29 rfl (lv_at hl 3 rfl) ?_
        refine x_callVAE (wg := fun z30 => WM G ad (ua σ 0 (upd (upd (upd (upd (σ 0) 9 (z30 0 9)) 10 (z30 0 10)) 11 (z30 0 11)) 12 (z30 0 12)))) (As := [.int (nI e)]) (rest := [.int (nI (fiN β (σ 7) n e))]) (st' := [.int (wrA β (σ 7) n (nI e)), .int (nI (fiN β (σ 7) n e))]) hC hK hZ hA hl.1 hH (k_X12_wrongIn l G ad (ua σ 0 (upd (upd (upd (upd (σ 0) 9 (z_e 0 9)) 10 (z_e 0 10)) 11 (z_e 0 11)) 12 (z_e 0 12))) (nI e) β n hR hn hn4) lk_X12_173 rfl 0 11 rfl rfl rfl ⟨Nat.le_of_ble_eq_true rfl, Nat.le_of_ble_eq_true rfl⟩ ⟨Nat.le_refl _, Nat.le_refl _⟩ (Nat.le_of_ble_eq_true rfl) rfl dX12_fitting_30 (fun z30 H locs hH => ?_)
        refine lv_if_ge (tgt := 42) hx hb dX12_fitting_33 (by decide) (fun c33 => ?_) (fun c33 => ?_)
        · refine lv_iconst (v := 0) hx hb dX12_fitting_42 (by decide) ?_
          refine lv_ior hx hb dX12_fitting_43 ?_
          refine lv_istore_n (lv' := [(2, .int ((nI (fiN β (σ 7) n e)) ||| 0)), (0, .ref (ad 0)), (1, .int w), (3, .int (nI e))]) hx hb dX12_fitting_44 rfl hl (by decide) rfl (fun ls hl => ?_)
          refine lv_iinc (v := ((nI e) + 1)) (lv' := [(3, .int ((nI e) + 1)), (2, .int ((nI (fiN β (σ 7) n e)) ||| 0)), (0, .ref (ad 0)), (1, .int w)]) hx hb dX12_fitting_45 hl (k := 3) rfl rfl (by decide) rfl (fun ls hl => ?_)
          refine lv_goto (tgt := 19) hx hb dX12_fitting_48 (by decide) ?_
          exact ih_e ((e + 1), (ua σ 0 (upd (upd (upd (upd (σ 0) 9 (z30 0 9)) 10 (z30 0 10)) 11 (z30 0 11)) 12 (z30 0 12)))) (show (e + 1) ≤ (2 ^ bH β) from (by omega)) (show (2 ^ bH β) - (e + 1) < (2 ^ bH β) - e from (by omega)) _ _ _ (hH.eq rfl) (lv_eq (lv_sub hl [2, 3, 1, 0] rfl) (lc_s (lc_s (lc_i (by first | (rw [fiN, if_pos c33]; exact i_or0 _) | (rw [fiN, if_neg c33]; exact or_top (fiN_lt _ _ _ _) (by omega)) : ((nI (fiN β (σ 7) n e)) ||| 0) = (nI (fiN β (σ 7) n (e + 1)))) (lc_i (by exact nI_1 _ : ((nI e) + 1) = (nI (e + 1))) rfl)))))
        · refine lv_iconst (v := 1) hx hb dX12_fitting_36 (by decide) ?_
          refine lv_iload_n hx hb dX12_fitting_37 rfl (lv_at hl 3 rfl) ?_
          refine lv_ishl hx hb dX12_fitting_38 ?_
          refine lv_goto (tgt := 43) hx hb dX12_fitting_39 (by decide) ?_
          refine lv_ior hx hb dX12_fitting_43 ?_
          refine lv_istore_n (lv' := [(2, .int ((nI (fiN β (σ 7) n e)) ||| ((1 : Int32) <<< ((nI e) &&& 31)))), (0, .ref (ad 0)), (1, .int w), (3, .int (nI e))]) hx hb dX12_fitting_44 rfl hl (by decide) rfl (fun ls hl => ?_)
          refine lv_iinc (v := ((nI e) + 1)) (lv' := [(3, .int ((nI e) + 1)), (2, .int ((nI (fiN β (σ 7) n e)) ||| ((1 : Int32) <<< ((nI e) &&& 31)))), (0, .ref (ad 0)), (1, .int w)]) hx hb dX12_fitting_45 hl (k := 3) rfl rfl (by decide) rfl (fun ls hl => ?_)
          refine lv_goto (tgt := 19) hx hb dX12_fitting_48 (by decide) ?_
          exact ih_e ((e + 1), (ua σ 0 (upd (upd (upd (upd (σ 0) 9 (z30 0 9)) 10 (z30 0 10)) 11 (z30 0 11)) 12 (z30 0 12)))) (show (e + 1) ≤ (2 ^ bH β) from (by omega)) (show (2 ^ bH β) - (e + 1) < (2 ^ bH β) - e from (by omega)) _ _ _ (hH.eq rfl) (lv_eq (lv_sub hl [2, 3, 1, 0] rfl) (lc_s (lc_s (lc_i (by first | (rw [fiN, if_pos c33]; exact i_or0 _) | (rw [fiN, if_neg c33]; exact or_top (fiN_lt _ _ _ _) (by omega)) : ((nI (fiN β (σ 7) n e)) ||| ((1 : Int32) <<< ((nI e) &&& 31))) = (nI (fiN β (σ 7) n (e + 1)))) (lc_i (by exact nI_1 _ : ((nI e) + 1) = (nI (e + 1))) rfl)))))
    · exact hH.eq rfl
    · exact lv_eq (lv_sub hl [2, 3, 1, 0] rfl) (lc_s (lc_s (lc_i (by rfl : 0 = (nI (fiN β (σ 7) n 0))) (lc_i (by rfl : 0 = (nI 0)) rfl))))
  · refine lv_aload_n hx hb dX12_fitting_8 rfl (lv_at hl 0 rfl) ?_
    refine lv_bipush (v := (-2)) hx hb dX12_fitting_9 (by decide) ?_
    refine x_callVA (ws' := WM G ad (ua σ 1 (upd (σ 1) 2 ((σ 1) 2 + 1)))) (As := [.int (-2)]) (rest := []) (st' := [.int (-2)]) hC hK hZ hA hl.1 hH (k_X12_refuse l G ad σ (-2) 2 rfl (by decide)) lk_X12_47 rfl 0 11 rfl rfl rfl ⟨Nat.le_of_ble_eq_true rfl, Nat.le_of_ble_eq_true rfl⟩ ⟨Nat.le_refl _, Nat.le_refl _⟩ (Nat.le_of_ble_eq_true rfl) rfl dX12_fitting_11 (fun H locs hH => ?_)
    exact x_iretE (ua σ 1 (upd (σ 1) 2 ((σ 1) 2 + 1))) hC hr hkL hH (by exact rfAk (cI_f c5) (by decide)) (congrArg (fun z_ : Nat → Int32 => WM G ad (ua σ 1 z_)) (by exact rfzk (cI_f c5) (by decide) : (rfz (σ 1) (fitC w)) = (upd (σ 1) 2 ((σ 1) 2 + 1)))) dX12_fitting_14
set_option maxHeartbeats 4000000 in
set_option maxRecDepth 100000 in
theorem k_X12_judge (l : Launch) (G : GP) (ad : Nat → Nat) (σ : Nat → Nat → Int32) (e : Int32) (β : Bk) (n : Nat) (hR : RB (σ 2) β) (hn : (σ 0 14) = nI n) (hn4 : n ≤ 4) : CTE l G yX12_judge cX12_judge 3 (some .int) 6 [.ref (ad 0), .int e] (WM G ad σ) (some (.int (rfA (hbC e (2 ^ bH β)) (wrA β (σ 7) n e)))) (fun z => WM G ad (ua (ua σ 0 (upd (upd (upd (upd (upd (σ 0) 9 (z 0 9)) 10 (z 0 10)) 11 (z 0 11)) 12 (z 0 12)) 14 (ifz (hbC e (2 ^ bH β)) 0 (nI n)))) 1 (rfz (σ 1) (hbC e (2 ^ bH β))))) := by
  refine x_methE "BetsOnBetsModel" rfl (by decide +kernel) (fun z => by rfl) (Nat.le_of_ble_eq_true rfl) ?_
  intro pP eE sS mM args below meth cC A ls hC hr hkL hK hZ hA hH hl
  have hx := hC.1
  have hb := hC.2.1
  have hl : lv_has ls 3 [(0, .ref (ad 0)), (1, .int e)] := hl
  have hh4 := hR.2.2.1
  have hk6 := hR.2.2.2.1
  have pwh := pw4 hh4
  have pwk := pw6 hk6
  refine lv_aload_n hx hb dX12_judge_0 rfl (lv_at hl 0 rfl) ?_
  refine lv_iload_n hx hb dX12_judge_1 rfl (lv_at hl 1 rfl) ?_
  refine x_callVA (ws' := WM G ad σ) (As := [.int e]) (rest := []) (st' := [.int (bI (0 ≤ e ∧ e < nI (2 ^ bH β)))]) hC hK hZ hA hl.1 hH (k_X12_isEnd l G ad σ e β hR) lk_X12_122 rfl 0 11 rfl rfl rfl ⟨Nat.le_of_ble_eq_true rfl, Nat.le_of_ble_eq_true rfl⟩ ⟨Nat.le_refl _, Nat.le_refl _⟩ (Nat.le_of_ble_eq_true rfl) rfl dX12_judge_2 (fun H locs hH => ?_)
  refine x_bne (tgt := 14) hC dX12_judge_5 (by decide) (fun c5 => ?_) (fun c5 => ?_)
  · refine lv_aload_n hx hb dX12_judge_14 rfl (lv_at hl 0 rfl) ?_
    refine lv_iload_n hx hb dX12_judge_15 rfl (lv_at hl 1 rfl) ?_
    refine x_callVAE (wg := fun z16 => WM G ad (ua σ 0 (upd (upd (upd (upd (σ 0) 9 (z16 0 9)) 10 (z16 0 10)) 11 (z16 0 11)) 12 (z16 0 12)))) (As := [.int e]) (rest := []) (st' := [.int (wrA β (σ 7) n e)]) hC hK hZ hA hl.1 hH (k_X12_wrongIn l G ad σ e β n hR hn hn4) lk_X12_173 rfl 0 11 rfl rfl rfl ⟨Nat.le_of_ble_eq_true rfl, Nat.le_of_ble_eq_true rfl⟩ ⟨Nat.le_refl _, Nat.le_refl _⟩ (Nat.le_of_ble_eq_true rfl) rfl dX12_judge_16 (fun z16 H locs hH => ?_)
    refine lv_istore_n (lv' := [(2, .int (wrA β (σ 7) n e)), (0, .ref (ad 0)), (1, .int e)]) hx hb dX12_judge_19 rfl hl (by decide) rfl (fun ls hl => ?_)
    refine lv_aload_n hx hb dX12_judge_20 rfl (lv_at hl 1 rfl) ?_
    refine lv_iconst (v := 0) hx hb dX12_judge_21 (by decide) ?_
    refine pf_X12_170 (ws' := WM G ad (ua σ 0 (upd (upd (upd (upd (upd (σ 0) 9 (z16 0 9)) 10 (z16 0 10)) 11 (z16 0 11)) 12 (z16 0 12)) 14 0))) hC hK hH 0 rfl rfl rfl (Nat.le_of_ble_eq_true rfl) dX12_judge_22 rfl (fun H locs hH => ?_)
    refine lv_iload_n hx hb dX12_judge_25 rfl (lv_at hl 0 rfl) ?_
    exact x_iretE (ua σ 0 (upd (upd (upd (upd (upd (σ 0) 9 (z16 0 9)) 10 (z16 0 10)) 11 (z16 0 11)) 12 (z16 0 12)) 14 0)) hC hr hkL hH (by (refine (rfA0 (show hbC e (2 ^ bH β) = 0 from cI_t c5)).trans ?_); rfl) (((congrArg (fun z_ : Nat → Int32 => WM G ad (ua (ua σ 0 z_) 1 (rfz (σ 1) (hbC e (2 ^ bH β))))) (by first | ((refine (ifz0 (show hbC e (2 ^ bH β) = 0 from cI_t c5)).trans ?_); rfl) | rw [ifz0 (show hbC e (2 ^ bH β) = 0 from cI_t c5)] : (upd (upd (upd (upd (upd (σ 0) 9 (z16 0 9)) 10 (z16 0 10)) 11 (z16 0 11)) 12 (z16 0 12)) 14 (ifz (hbC e (2 ^ bH β)) 0 (nI n))) = (upd (upd (upd (upd (upd (σ 0) 9 (z16 0 9)) 10 (z16 0 10)) 11 (z16 0 11)) 12 (z16 0 12)) 14 0))).trans (congrArg (fun z_ : Nat → Int32 => WM G ad (ua (ua σ 0 (upd (upd (upd (upd (upd (σ 0) 9 (z16 0 9)) 10 (z16 0 10)) 11 (z16 0 11)) 12 (z16 0 12)) 14 0)) 1 z_)) (by exact rfz0 (show hbC e (2 ^ bH β) = 0 from cI_t c5) : (rfz (σ 1) (hbC e (2 ^ bH β))) = (σ 1)))).trans (show WM G ad (ua (ua σ 0 (upd (upd (upd (upd (upd (σ 0) 9 (z16 0 9)) 10 (z16 0 10)) 11 (z16 0 11)) 12 (z16 0 12)) 14 0)) 1 (σ 1)) = WM G ad (ua σ 0 (upd (upd (upd (upd (upd (σ 0) 9 (z16 0 9)) 10 (z16 0 10)) 11 (z16 0 11)) 12 (z16 0 12)) 14 0)) from rfl)) dX12_judge_26
  · refine lv_aload_n hx hb dX12_judge_8 rfl (lv_at hl 0 rfl) ?_
    refine lv_iconst (v := (-1)) hx hb dX12_judge_9 (by decide) ?_
    refine x_callVA (ws' := WM G ad (ua σ 1 (upd (σ 1) 1 ((σ 1) 1 + 1)))) (As := [.int (-1)]) (rest := []) (st' := [.int (-1)]) hC hK hZ hA hl.1 hH (k_X12_refuse l G ad σ (-1) 1 rfl (by decide)) lk_X12_47 rfl 0 11 rfl rfl rfl ⟨Nat.le_of_ble_eq_true rfl, Nat.le_of_ble_eq_true rfl⟩ ⟨Nat.le_refl _, Nat.le_refl _⟩ (Nat.le_of_ble_eq_true rfl) rfl dX12_judge_10 (fun H locs hH => ?_)
    exact x_iretE (ua σ 1 (upd (σ 1) 1 ((σ 1) 1 + 1))) hC hr hkL hH (by exact rfAk (cI_f c5) (by decide)) (((congrArg (fun z_ : Nat → Int32 => WM G ad (ua (ua σ 0 z_) 1 (rfz (σ 1) (hbC e (2 ^ bH β))))) (by (rw [ifzk (show hbC e (2 ^ bH β) = 1 from cI_f c5) (by decide), ← hn]; exact upd_id rfl) : (upd (σ 0) 14 (ifz (hbC e (2 ^ bH β)) 0 (nI n))) = (σ 0))).trans (congrArg (fun z_ : Nat → Int32 => WM G ad (ua (ua σ 0 (σ 0)) 1 z_)) (by exact rfzk (cI_f c5) (by decide) : (rfz (σ 1) (hbC e (2 ^ bH β))) = (upd (σ 1) 1 ((σ 1) 1 + 1))))).trans (show WM G ad (ua (ua σ 0 (σ 0)) 1 (upd (σ 1) 1 ((σ 1) 1 + 1))) = WM G ad (ua σ 1 (upd (σ 1) 1 ((σ 1) 1 + 1))) from rfl)) dX12_judge_13
set_option maxHeartbeats 4000000 in
set_option maxRecDepth 100000 in
theorem k_X12_seeds (l : Launch) (G : GP) (ad : Nat → Nat) (σ : Nat → Nat → Int32) (n : Int32) (z : Int32) (p : Int32) (β : Bk) (hR : RB (σ 2) β) : CTE l G yX12_seeds cX12_seeds 10 (some .int) 5 [.ref (ad 0), .int n, .int z, .int p] (WM G ad σ) (some (.int (rfB (sdC p n) (sdA β p n z)))) (fun z => WM G ad (ua (ua σ 0 (upd (upd (upd (upd (σ 0) 9 (z 0 9)) 10 (z 0 10)) 11 (z 0 11)) 12 (z 0 12))) 1 (rfz (σ 1) (sdC p n)))) := by
  refine x_methE "BetsOnBetsModel" rfl (by decide +kernel) (fun z => by rfl) (Nat.le_of_ble_eq_true rfl) ?_
  intro pP eE sS mM args below meth cC A ls hC hr hkL hK hZ hA hH hl
  have hx := hC.1
  have hb := hC.2.1
  have hl : lv_has ls 10 [(0, .ref (ad 0)), (1, .int n), (2, .int z), (3, .int p)] := hl
  have hh4 := hR.2.2.1
  have hk6 := hR.2.2.2.1
  have pwh := pw4 hh4
  have pwk := pw6 hk6
  refine lv_iload_n hx hb dX12_seeds_0 rfl (lv_at hl 3 rfl) ?_
  refine x_callS (ws' := WM G ad σ) (As := [.int p]) (rest := []) (st' := [.int (bI (0 ≤ p ∧ p < 4))]) hC hK hZ hA hl.1 hH (k_X12_isPerson l G (pk ad []) (pk σ []) p) lk_X12_77 [] rfl rfl rfl rfl ⟨Nat.le_of_ble_eq_true rfl, Nat.le_of_ble_eq_true rfl⟩ ⟨Nat.le_refl _, Nat.le_refl _⟩ (Nat.le_of_ble_eq_true rfl) rfl dX12_seeds_1 (fun H locs hH => ?_)
  refine x_bne (tgt := 11) hC dX12_seeds_4 (by decide) (fun c4 => ?_) (fun c4 => ?_)
  · refine lv_iload_n hx hb dX12_seeds_11 rfl (lv_at hl 1 rfl) ?_
    refine lv_iconst (v := 1) hx hb dX12_seeds_12 (by decide) ?_
    refine lv_bipush (v := 30) hx hb dX12_seeds_13 (by decide) ?_
    refine x_callS (ws' := WM G ad σ) (As := [.int n, .int 1, .int 30]) (rest := []) (st' := [.int (withinF n 1 30)]) hC hK hZ hA hl.1 hH (k_X12_within l G (pk ad []) (pk σ []) n 1 30) lk_X12_39 [] rfl rfl rfl rfl ⟨Nat.le_of_ble_eq_true rfl, Nat.le_of_ble_eq_true rfl⟩ ⟨Nat.le_refl _, Nat.le_refl _⟩ (Nat.le_of_ble_eq_true rfl) rfl dX12_seeds_15 (fun H locs hH => ?_)
    rcases withinF_cases n 1 30 with ⟨g1, g2⟩ | ⟨g1, g2, g3⟩ | ⟨g1, g2, g3⟩
    · refine x_topE (y := (-4)) g2 ?_
      refine lv_istore (lv' := [(4, .int (-4)), (0, .ref (ad 0)), (1, .int n), (2, .int z), (3, .int p)]) hx hb dX12_seeds_18 hl (by decide) rfl (fun ls hl => ?_)
      refine lv_iload hx hb dX12_seeds_20 (lv_at hl 0 rfl) ?_
      refine lv_if_eq (tgt := 35) hx hb dX12_seeds_22 (by decide) (fun c22 => ?_) (fun c22 => ?_)
      · exact absurd c22 (by decide)
      refine lv_ldc (v := 1000000000) hx hb hC.2.2.2.1 (hC.2.2.2.2 _ wd_941) dX12_seeds_25 ?_
      refine lv_aload_n hx hb dX12_seeds_27 rfl (lv_at hl 1 rfl) ?_
      refine lv_iload hx hb dX12_seeds_28 (lv_at hl 0 rfl) ?_
      refine x_callVA (ws' := WM G ad (ua σ 1 (upd (σ 1) 4 ((σ 1) 4 + 1)))) (As := [.int (-4)]) (rest := [.int 1000000000]) (st' := [.int (-4), .int 1000000000]) hC hK hZ hA hl.1 hH (k_X12_refuse l G ad σ (-4) 4 rfl (by decide)) lk_X12_47 rfl 0 11 rfl rfl rfl ⟨Nat.le_of_ble_eq_true rfl, Nat.le_of_ble_eq_true rfl⟩ ⟨Nat.le_refl _, Nat.le_refl _⟩ (Nat.le_of_ble_eq_true rfl) rfl dX12_seeds_30 (fun H locs hH => ?_)
      refine lv_isub hx hb dX12_seeds_33 ?_
      exact x_iretE (ua σ 1 (upd (σ 1) 4 ((σ 1) 4 + 1))) hC hr hkL hH (by exact rfBk ((cI_t c4).trans (wiC4 g1)) (by decide)) (congrArg (fun z_ : Nat → Int32 => WM G ad (ua σ 1 z_)) (by exact rfzk ((cI_t c4).trans (wiC4 g1)) (by decide) : (rfz (σ 1) (sdC p n)) = (upd (σ 1) 4 ((σ 1) 4 + 1)))) dX12_seeds_34
    · refine x_topE (y := (-6)) g3 ?_
      refine lv_istore (lv' := [(4, .int (-6)), (0, .ref (ad 0)), (1, .int n), (2, .int z), (3, .int p)]) hx hb dX12_seeds_18 hl (by decide) rfl (fun ls hl => ?_)
      refine lv_iload hx hb dX12_seeds_20 (lv_at hl 0 rfl) ?_
      refine lv_if_eq (tgt := 35) hx hb dX12_seeds_22 (by decide) (fun c22 => ?_) (fun c22 => ?_)
      · exact absurd c22 (by decide)
      refine lv_ldc (v := 1000000000) hx hb hC.2.2.2.1 (hC.2.2.2.2 _ wd_941) dX12_seeds_25 ?_
      refine lv_aload_n hx hb dX12_seeds_27 rfl (lv_at hl 1 rfl) ?_
      refine lv_iload hx hb dX12_seeds_28 (lv_at hl 0 rfl) ?_
      refine x_callVA (ws' := WM G ad (ua σ 1 (upd (σ 1) 6 ((σ 1) 6 + 1)))) (As := [.int (-6)]) (rest := [.int 1000000000]) (st' := [.int (-6), .int 1000000000]) hC hK hZ hA hl.1 hH (k_X12_refuse l G ad σ (-6) 6 rfl (by decide)) lk_X12_47 rfl 0 11 rfl rfl rfl ⟨Nat.le_of_ble_eq_true rfl, Nat.le_of_ble_eq_true rfl⟩ ⟨Nat.le_refl _, Nat.le_refl _⟩ (Nat.le_of_ble_eq_true rfl) rfl dX12_seeds_30 (fun H locs hH => ?_)
      refine lv_isub hx hb dX12_seeds_33 ?_
      exact x_iretE (ua σ 1 (upd (σ 1) 6 ((σ 1) 6 + 1))) hC hr hkL hH (by exact rfBk ((cI_t c4).trans (wiC6 g1 g2)) (by decide)) (congrArg (fun z_ : Nat → Int32 => WM G ad (ua σ 1 z_)) (by exact rfzk ((cI_t c4).trans (wiC6 g1 g2)) (by decide) : (rfz (σ 1) (sdC p n)) = (upd (σ 1) 6 ((σ 1) 6 + 1)))) dX12_seeds_34
    · refine x_topE (y := 0) g3 ?_
      refine lv_istore (lv' := [(4, .int 0), (0, .ref (ad 0)), (1, .int n), (2, .int z), (3, .int p)]) hx hb dX12_seeds_18 hl (by decide) rfl (fun ls hl => ?_)
      refine lv_iload hx hb dX12_seeds_20 (lv_at hl 0 rfl) ?_
      refine lv_if_eq (tgt := 35) hx hb dX12_seeds_22 (by decide) (fun c22 => ?_) (fun c22 => ?_)
      rotate_left
      · exact absurd c22 (by decide)
      obtain ⟨m_, hm_, en_⟩ : ∃ m, m ≤ 30 ∧ n = nI m := nI_of2 (M := 30) rfl (fun z => g1 (Int32.lt_trans z (by decide))) (Int32.not_lt.mp g2)
      refine lv_iload_n hx hb dX12_seeds_35 rfl (lv_at hl 3 rfl) ?_
      refine lv_istore (lv' := [(5, .int z), (4, .int 0), (0, .ref (ad 0)), (1, .int n), (2, .int z), (3, .int p)]) hx hb dX12_seeds_36 hl (by decide) rfl (fun ls hl => ?_)
      refine lv_iconst (v := 0) hx hb dX12_seeds_38 (by decide) ?_
      refine lv_istore (lv' := [(6, .int 0), (5, .int z), (4, .int 0), (0, .ref (ad 0)), (1, .int n), (2, .int z), (3, .int p)]) hx hb dX12_seeds_39 hl (by decide) rfl (fun ls hl => ?_)
      refine lv_iconst (v := 0) hx hb dX12_seeds_41 (by decide) ?_
      refine lv_istore (lv' := [(7, .int 0), (6, .int 0), (5, .int z), (4, .int 0), (0, .ref (ad 0)), (1, .int n), (2, .int z), (3, .int p)]) hx hb dX12_seeds_42 hl (by decide) rfl (fun ls hl => ?_)
      refine x_loop (G := G) (A := A) (H0 := sS.heap) (nL := 10) (α := Nat × (Nat → Nat → Int32)) (fun q_ => m_ - q_.1) (fun q_ => q_.1 ≤ m_) (fun q_ => WM G ad (ua σ 0 (upd (upd (upd (upd (σ 0) 9 (q_.2 0 9)) 10 (q_.2 0 10)) 11 (q_.2 0 11)) 12 (q_.2 0 12)))) (fun q_ => [(0, .ref (ad 0)), (1, .int n), (2, .int z), (3, .int p), (4, .int 0), (5, .int ((sdO β p z q_.1).1)), (6, .int ((sdO β p z q_.1).2)), (7, .int (nI q_.1))]) ?_ (0, σ) (show 0 ≤ m_ from (Nat.zero_le _)) ?_ ?_
      · rintro ⟨i, z_i⟩ hi_i ih_i H locs ls hH hl
        replace hi_i : i ≤ m_ := hi_i
        replace hH : Hx G A (WM G ad (ua σ 0 (upd (upd (upd (upd (σ 0) 9 (z_i 0 9)) 10 (z_i 0 10)) 11 (z_i 0 11)) 12 (z_i 0 12)))) sS.heap H locs := hH
        replace hl : lv_has ls 10 [(0, .ref (ad 0)), (1, .int n), (2, .int z), (3, .int p), (4, .int 0), (5, .int ((sdO β p z i).1)), (6, .int ((sdO β p z i).2)), (7, .int (nI i))] := hl
        refine lv_iload hx hb dX12_seeds_44 (lv_at hl 7 rfl) ?_
        refine lv_iload_n hx hb dX12_seeds_46 rfl (lv_at hl 1 rfl) ?_
        refine lv_icmp_ge (tgt := 138) hx hb dX12_seeds_47 (by decide) (fun c47 => ?_) (fun c47 => ?_)
        · have ge_i := lp_out (n := m_) en_ (by omega) (by omega) c47
          have eq_i : i = m_ := by omega
          refine lv_iload hx hb dX12_seeds_138 (lv_at hl 6 rfl) ?_
          exact x_iretE (ua σ 0 (upd (upd (upd (upd (σ 0) 9 (z_i 0 9)) 10 (z_i 0 10)) 11 (z_i 0 11)) 12 (z_i 0 12))) hC hr hkL hH (by (refine (rfB0 ((cI_t c4).trans (wiC0 g1 g2))).trans ?_); rw [sdA, eq_i, en_, nI_clamp (by omega)]) ((congrArg (fun z_ : Nat → Int32 => WM G ad (ua (ua σ 0 (upd (upd (upd (upd (σ 0) 9 (z_i 0 9)) 10 (z_i 0 10)) 11 (z_i 0 11)) 12 (z_i 0 12))) 1 z_)) (by exact rfz0 ((cI_t c4).trans (wiC0 g1 g2)) : (rfz (σ 1) (sdC p n)) = (σ 1))).trans (show WM G ad (ua (ua σ 0 (upd (upd (upd (upd (σ 0) 9 (z_i 0 9)) 10 (z_i 0 10)) 11 (z_i 0 11)) 12 (z_i 0 12))) 1 (σ 1)) = WM G ad (ua σ 0 (upd (upd (upd (upd (σ 0) 9 (z_i 0 9)) 10 (z_i 0 10)) 11 (z_i 0 11)) 12 (z_i 0 12))) from rfl)) dX12_seeds_140
        · have lt_i := lp_in (n := m_) en_ (by omega) (by omega) c47
          refine lv_iconst (v := 0) hx hb dX12_seeds_50 (by decide) ?_
          refine lv_istore (lv' := [(8, .int 0), (0, .ref (ad 0)), (1, .int n), (2, .int z), (3, .int p), (4, .int 0), (5, .int ((sdO β p z i).1)), (6, .int ((sdO β p z i).2)), (7, .int (nI i))]) hx hb dX12_seeds_51 hl (by decide) rfl (fun ls hl => ?_)
          refine lv_iconst (v := 0) hx hb dX12_seeds_53 (by decide) ?_
          refine lv_istore (lv' := [(9, .int 0), (8, .int 0), (0, .ref (ad 0)), (1, .int n), (2, .int z), (3, .int p), (4, .int 0), (5, .int ((sdO β p z i).1)), (6, .int ((sdO β p z i).2)), (7, .int (nI i))]) hx hb dX12_seeds_54 hl (by decide) rfl (fun ls hl => ?_)
          refine x_loop (G := G) (A := A) (H0 := sS.heap) (nL := 10) (α := Nat) (fun q_ => (bH β) - q_) (fun q_ => q_ ≤ (bH β)) (fun q_ => WM G ad (ua σ 0 (upd (upd (upd (upd (σ 0) 9 (z_i 0 9)) 10 (z_i 0 10)) 11 (z_i 0 11)) 12 (z_i 0 12)))) (fun q_ => [(0, .ref (ad 0)), (1, .int n), (2, .int z), (3, .int p), (4, .int 0), (5, .int ((sdI β (sdO β p z i).1 q_).1)), (6, .int ((sdO β p z i).2)), (7, .int (nI i)), (8, .int ((sdI β (sdO β p z i).1 q_).2)), (9, .int (nI q_))]) ?_ 0 (show 0 ≤ (bH β) from (Nat.zero_le _)) ?_ ?_
          · rintro h hi_h ih_h H locs ls hH hl
            replace hi_h : h ≤ (bH β) := hi_h
            replace hH : Hx G A (WM G ad (ua σ 0 (upd (upd (upd (upd (σ 0) 9 (z_i 0 9)) 10 (z_i 0 10)) 11 (z_i 0 11)) 12 (z_i 0 12)))) sS.heap H locs := hH
            replace hl : lv_has ls 10 [(0, .ref (ad 0)), (1, .int n), (2, .int z), (3, .int p), (4, .int 0), (5, .int ((sdI β (sdO β p z i).1 h).1)), (6, .int ((sdO β p z i).2)), (7, .int (nI i)), (8, .int ((sdI β (sdO β p z i).1 h).2)), (9, .int (nI h))] := hl
            refine lv_iload hx hb dX12_seeds_56 (lv_at hl 9 rfl) ?_
            refine lv_aload_n hx hb dX12_seeds_58 rfl (lv_at hl 0 rfl) ?_
            refine gf_X12_13 (v := .ref (ad 2)) hC hK hH 0 rfl rfl dX12_seeds_59 ?_
            refine lv_iconst (v := 0) hx hb dX12_seeds_62 (by decide) ?_
            refine x_ialN (f := (σ 2)) hC hK hH 2 0 rfl rfl (by decide) (Nat.le_of_ble_eq_true rfl) dX12_seeds_63 ?_
            refine lv_icmp_ge (tgt := 120) hx hb dX12_seeds_64 (by decide) (fun c64 => ?_) (fun c64 => ?_)
            · have ge_h := lp_out (n := bH β) hR.1 (by omega) (by omega) c64
              have eq_h : h = bH β := by omega
              refine lv_iload hx hb dX12_seeds_120 (lv_at hl 6 rfl) ?_
              refine lv_aload_n hx hb dX12_seeds_122 rfl (lv_at hl 0 rfl) ?_
              refine lv_iload_n hx hb dX12_seeds_123 rfl (lv_at hl 3 rfl) ?_
              refine lv_iload hx hb dX12_seeds_124 (lv_at hl 8 rfl) ?_
              refine x_callVAE (wg := fun z126 => WM G ad (ua σ 0 (upd (upd (upd (upd (σ 0) 9 (z126 0 9)) 10 (z126 0 10)) 11 (z126 0 11)) 12 (z126 0 12)))) (As := [.int p, .int ((sdI β (sdO β p z i).1 h).2)]) (rest := [.int ((sdO β p z i).2)]) (st' := [.int (purA β p ((sdI β (sdO β p z i).1 h).2)), .int ((sdO β p z i).2)]) hC hK hZ hA hl.1 hH (k_X12_purseOf l G ad (ua σ 0 (upd (upd (upd (upd (σ 0) 9 (z_i 0 9)) 10 (z_i 0 10)) 11 (z_i 0 11)) 12 (z_i 0 12))) p ((sdI β (sdO β p z i).1 h).2) β hR) lk_X12_132 rfl 0 11 rfl rfl rfl ⟨Nat.le_of_ble_eq_true rfl, Nat.le_of_ble_eq_true rfl⟩ ⟨Nat.le_refl _, Nat.le_refl _⟩ (Nat.le_of_ble_eq_true rfl) rfl dX12_seeds_126 (fun z126 H locs hH => ?_)
              refine lv_iadd hx hb dX12_seeds_129 ?_
              refine lv_istore (lv' := [(6, .int (((sdO β p z i).2) + (purA β p ((sdI β (sdO β p z i).1 h).2)))), (0, .ref (ad 0)), (1, .int n), (2, .int z), (3, .int p), (4, .int 0), (5, .int ((sdI β (sdO β p z i).1 h).1)), (7, .int (nI i)), (8, .int ((sdI β (sdO β p z i).1 h).2)), (9, .int (nI h))]) hx hb dX12_seeds_130 hl (by decide) rfl (fun ls hl => ?_)
              refine lv_iinc (v := ((nI i) + 1)) (lv' := [(7, .int ((nI i) + 1)), (6, .int (((sdO β p z i).2) + (purA β p ((sdI β (sdO β p z i).1 h).2)))), (0, .ref (ad 0)), (1, .int n), (2, .int z), (3, .int p), (4, .int 0), (5, .int ((sdI β (sdO β p z i).1 h).1)), (8, .int ((sdI β (sdO β p z i).1 h).2)), (9, .int (nI h))]) hx hb dX12_seeds_132 hl (k := 7) rfl rfl (by decide) rfl (fun ls hl => ?_)
              refine lv_goto (tgt := 44) hx hb dX12_seeds_135 (by decide) ?_
              exact ih_i ((i + 1), (ua σ 0 (upd (upd (upd (upd (σ 0) 9 (z126 0 9)) 10 (z126 0 10)) 11 (z126 0 11)) 12 (z126 0 12)))) (show (i + 1) ≤ m_ from (by omega)) (show m_ - (i + 1) < m_ - i from (by omega)) _ _ _ (hH.eq rfl) (lv_eq (lv_sub hl [2, 3, 4, 5, 6, 7, 1, 0] rfl) (lc_s (lc_s (lc_s (lc_s (lc_s (lc_i (by rw [eq_h]; rfl : (sdI β (sdO β p z i).1 h).1 = (sdO β p z (i + 1)).1) (lc_i (by rw [eq_h]; rfl : (((sdO β p z i).2) + (purA β p ((sdI β (sdO β p z i).1 h).2))) = (sdO β p z (i + 1)).2) (lc_i (by exact nI_1 _ : ((nI i) + 1) = (nI (i + 1))) rfl)))))))))
            · have lt_h := lp_in (n := bH β) hR.1 (by omega) (by omega) c64
              refine lv_iload hx hb dX12_seeds_67 (lv_at hl 5 rfl) ?_
              refine lv_ldc (v := 1664525) hx hb hC.2.2.2.1 (hC.2.2.2.2 _ wd_1050) dX12_seeds_69 ?_
              refine lv_imul hx hb dX12_seeds_71 ?_
              refine lv_ldc (v := 1013904223) hx hb hC.2.2.2.1 (hC.2.2.2.2 _ wd_1051) dX12_seeds_72 ?_
              refine lv_iadd hx hb dX12_seeds_74 ?_
              refine lv_istore (lv' := [(5, .int ((((sdI β (sdO β p z i).1 h).1) * 1664525) + 1013904223)), (0, .ref (ad 0)), (1, .int n), (2, .int z), (3, .int p), (4, .int 0), (6, .int ((sdO β p z i).2)), (7, .int (nI i)), (8, .int ((sdI β (sdO β p z i).1 h).2)), (9, .int (nI h))]) hx hb dX12_seeds_75 hl (by decide) rfl (fun ls hl => ?_)
              refine lv_iload hx hb dX12_seeds_77 (lv_at hl 8 rfl) ?_
              refine lv_iload hx hb dX12_seeds_79 (lv_at hl 0 rfl) ?_
              refine lv_ldc (v := 2147483647) hx hb hC.2.2.2.1 (hC.2.2.2.2 _ wd_1052) dX12_seeds_81 ?_
              refine lv_iand hx hb dX12_seeds_83 ?_
              refine lv_sipush (v := 256) hx hb dX12_seeds_84 (by decide) ?_
              refine lv_idiv hx hb dX12_seeds_87 (by decide) ?_
              refine lv_bipush (v := 100) hx hb dX12_seeds_88 (by decide) ?_
              refine lv_irem hx hb dX12_seeds_90 (by decide) ?_
              refine lv_aload_n hx hb dX12_seeds_91 rfl (lv_at hl 1 rfl) ?_
              refine gf_X12_13 (v := .ref (ad 2)) hC hK hH 0 rfl rfl dX12_seeds_92 ?_
              refine lv_iconst (v := 2) hx hb dX12_seeds_95 (by decide) ?_
              refine lv_iload hx hb dX12_seeds_96 (lv_at hl 9 rfl) ?_
              refine lv_iadd hx hb dX12_seeds_98 ?_
              refine x_ialN (f := (σ 2)) hC hK hH 2 (2 + h) rfl (by rw [nIa]; rfl) (by omega) (Nat.le_of_ble_eq_true rfl) dX12_seeds_99 ?_
              refine x_topE (y := (bC β h)) (hR.2.2.2.2.1 _ (by omega)) ?_
              refine lv_icmp_ge (tgt := 110) hx hb dX12_seeds_100 (by decide) (fun c100 => ?_) (fun c100 => ?_)
              · refine lv_iconst (v := 0) hx hb dX12_seeds_110 (by decide) ?_
                refine lv_ior hx hb dX12_seeds_111 ?_
                refine lv_istore (lv' := [(8, .int (((sdI β (sdO β p z i).1 h).2) ||| 0)), (5, .int ((((sdI β (sdO β p z i).1 h).1) * 1664525) + 1013904223)), (0, .ref (ad 0)), (1, .int n), (2, .int z), (3, .int p), (4, .int 0), (6, .int ((sdO β p z i).2)), (7, .int (nI i)), (9, .int (nI h))]) hx hb dX12_seeds_112 hl (by decide) rfl (fun ls hl => ?_)
                refine lv_iinc (v := ((nI h) + 1)) (lv' := [(9, .int ((nI h) + 1)), (8, .int (((sdI β (sdO β p z i).1 h).2) ||| 0)), (5, .int ((((sdI β (sdO β p z i).1 h).1) * 1664525) + 1013904223)), (0, .ref (ad 0)), (1, .int n), (2, .int z), (3, .int p), (4, .int 0), (6, .int ((sdO β p z i).2)), (7, .int (nI i))]) hx hb dX12_seeds_114 hl (k := 9) rfl rfl (by decide) rfl (fun ls hl => ?_)
                refine lv_goto (tgt := 56) hx hb dX12_seeds_117 (by decide) ?_
                exact ih_h (h + 1) (show (h + 1) ≤ (bH β) from (by omega)) (show (bH β) - (h + 1) < (bH β) - h from (by omega)) _ _ _ (hH.eq rfl) (lv_eq (lv_sub hl [3, 4, 5, 6, 7, 2, 8, 9, 1, 0] rfl) (lc_s (lc_s (lc_s (lc_s (lc_s (lc_i (by rfl : ((((sdI β (sdO β p z i).1 h).1) * 1664525) + 1013904223) = (sdI β (sdO β p z i).1 (h + 1)).1) (lc_s (lc_s (lc_i (by first | exact sdI_t c100 | exact sdI_f c100 : (((sdI β (sdO β p z i).1 h).2) ||| 0) = (sdI β (sdO β p z i).1 (h + 1)).2) (lc_i (by exact nI_1 _ : ((nI h) + 1) = (nI (h + 1))) rfl)))))))))))
              · refine lv_iconst (v := 1) hx hb dX12_seeds_103 (by decide) ?_
                refine lv_iload hx hb dX12_seeds_104 (lv_at hl 9 rfl) ?_
                refine lv_ishl hx hb dX12_seeds_106 ?_
                refine lv_goto (tgt := 111) hx hb dX12_seeds_107 (by decide) ?_
                refine lv_ior hx hb dX12_seeds_111 ?_
                refine lv_istore (lv' := [(8, .int (((sdI β (sdO β p z i).1 h).2) ||| ((1 : Int32) <<< ((nI h) &&& 31)))), (5, .int ((((sdI β (sdO β p z i).1 h).1) * 1664525) + 1013904223)), (0, .ref (ad 0)), (1, .int n), (2, .int z), (3, .int p), (4, .int 0), (6, .int ((sdO β p z i).2)), (7, .int (nI i)), (9, .int (nI h))]) hx hb dX12_seeds_112 hl (by decide) rfl (fun ls hl => ?_)
                refine lv_iinc (v := ((nI h) + 1)) (lv' := [(9, .int ((nI h) + 1)), (8, .int (((sdI β (sdO β p z i).1 h).2) ||| ((1 : Int32) <<< ((nI h) &&& 31)))), (5, .int ((((sdI β (sdO β p z i).1 h).1) * 1664525) + 1013904223)), (0, .ref (ad 0)), (1, .int n), (2, .int z), (3, .int p), (4, .int 0), (6, .int ((sdO β p z i).2)), (7, .int (nI i))]) hx hb dX12_seeds_114 hl (k := 9) rfl rfl (by decide) rfl (fun ls hl => ?_)
                refine lv_goto (tgt := 56) hx hb dX12_seeds_117 (by decide) ?_
                exact ih_h (h + 1) (show (h + 1) ≤ (bH β) from (by omega)) (show (bH β) - (h + 1) < (bH β) - h from (by omega)) _ _ _ (hH.eq rfl) (lv_eq (lv_sub hl [3, 4, 5, 6, 7, 2, 8, 9, 1, 0] rfl) (lc_s (lc_s (lc_s (lc_s (lc_s (lc_i (by rfl : ((((sdI β (sdO β p z i).1 h).1) * 1664525) + 1013904223) = (sdI β (sdO β p z i).1 (h + 1)).1) (lc_s (lc_s (lc_i (by first | exact sdI_t c100 | exact sdI_f c100 : (((sdI β (sdO β p z i).1 h).2) ||| ((1 : Int32) <<< ((nI h) &&& 31))) = (sdI β (sdO β p z i).1 (h + 1)).2) (lc_i (by exact nI_1 _ : ((nI h) + 1) = (nI (h + 1))) rfl)))))))))))
          · exact hH.eq rfl
          · exact lv_eq (lv_sub hl [2, 3, 4, 5, 6, 7, 8, 9, 1, 0] rfl) (lc_s (lc_s (lc_s (lc_s (lc_s (lc_i (by rfl : (sdO β p z i).1 = (sdI β (sdO β p z i).1 0).1) (lc_s (lc_s (lc_i (by rfl : 0 = (sdI β (sdO β p z i).1 0).2) (lc_i (by rfl : 0 = (nI 0)) rfl))))))))))
      · exact hH.eq rfl
      · exact lv_eq (lv_sub hl [4, 5, 6, 7, 3, 2, 1, 0] rfl) (lc_s (lc_s (lc_s (lc_s (lc_s (lc_i (by rfl : z = (sdO β p z 0).1) (lc_i (by rfl : 0 = (sdO β p z 0).2) (lc_i (by rfl : 0 = (nI 0)) rfl))))))))
  · refine lv_iconst (v := (-1)) hx hb dX12_seeds_7 (by decide) ?_
    refine lv_goto (tgt := 18) hx hb dX12_seeds_8 (by decide) ?_
    refine lv_istore (lv' := [(4, .int (-1)), (0, .ref (ad 0)), (1, .int n), (2, .int z), (3, .int p)]) hx hb dX12_seeds_18 hl (by decide) rfl (fun ls hl => ?_)
    refine lv_iload hx hb dX12_seeds_20 (lv_at hl 0 rfl) ?_
    refine lv_if_eq (tgt := 35) hx hb dX12_seeds_22 (by decide) (fun c22 => ?_) (fun c22 => ?_)
    · exact absurd c22 (by decide)
    refine lv_ldc (v := 1000000000) hx hb hC.2.2.2.1 (hC.2.2.2.2 _ wd_941) dX12_seeds_25 ?_
    refine lv_aload_n hx hb dX12_seeds_27 rfl (lv_at hl 1 rfl) ?_
    refine lv_iload hx hb dX12_seeds_28 (lv_at hl 0 rfl) ?_
    refine x_callVA (ws' := WM G ad (ua σ 1 (upd (σ 1) 1 ((σ 1) 1 + 1)))) (As := [.int (-1)]) (rest := [.int 1000000000]) (st' := [.int (-1), .int 1000000000]) hC hK hZ hA hl.1 hH (k_X12_refuse l G ad σ (-1) 1 rfl (by decide)) lk_X12_47 rfl 0 11 rfl rfl rfl ⟨Nat.le_of_ble_eq_true rfl, Nat.le_of_ble_eq_true rfl⟩ ⟨Nat.le_refl _, Nat.le_refl _⟩ (Nat.le_of_ble_eq_true rfl) rfl dX12_seeds_30 (fun H locs hH => ?_)
    refine lv_isub hx hb dX12_seeds_33 ?_
    exact x_iretE (ua σ 1 (upd (σ 1) 1 ((σ 1) 1 + 1))) hC hr hkL hH (by exact rfBk (cI_f c4) (by decide)) (congrArg (fun z_ : Nat → Int32 => WM G ad (ua σ 1 z_)) (by exact rfzk (cI_f c4) (by decide) : (rfz (σ 1) (sdC p n)) = (upd (σ 1) 1 ((σ 1) 1 + 1)))) dX12_seeds_34
set_option maxHeartbeats 4000000 in
set_option maxRecDepth 100000 in
theorem k_X12_image (l : Launch) (G : GP) (ad : Nat → Nat) (σ : Nat → Nat → Int32) (β : Bk) (hR : RB (σ 2) β) : CT l G yX12_image cX12_image 1 (some .int) 1 [.ref (ad 0)] (WM G ad σ) (some (.int (nI (bK β)))) (WM G ad (ua (ua σ 0 (upd (σ 0) 4 1)) 3 (σ 2))) := by
  refine x_meth "BetsOnBetsModel" rfl (by decide +kernel) (by rfl) (Nat.le_of_ble_eq_true rfl) ?_
  intro pP eE sS mM args below meth cC A ls hC hr hkL hK hZ hA hH hl
  have hx := hC.1
  have hb := hC.2.1
  have hl : lv_has ls 1 [(0, .ref (ad 0))] := hl
  have hh4 := hR.2.2.1
  have hk6 := hR.2.2.2.1
  have pwh := pw4 hh4
  have pwk := pw6 hk6
  refine lv_aload_n hx hb dX12_image_0 rfl (lv_at hl 0 rfl) ?_
  refine gf_X12_13 (v := .ref (ad 2)) hC hK hH 0 rfl rfl dX12_image_1 ?_
  refine lv_aload_n hx hb dX12_image_4 rfl (lv_at hl 0 rfl) ?_
  refine gf_X12_16 (v := .ref (ad 3)) hC hK hH 0 rfl rfl dX12_image_5 ?_
  refine x_callS (ws' := WM G ad (ua σ 3 (σ 2))) (As := [.ref (ad 2), .ref (ad 3)]) (rest := []) (st' := []) hC hK hZ hA hl.1 hH (k_X12_copies l G (pk ad [2, 3]) (pk σ [2, 3])) lk_X12_83 [2, 3] rfl rfl rfl rfl ⟨Nat.le_of_ble_eq_true rfl, Nat.le_of_ble_eq_true rfl⟩ ⟨Nat.le_refl _, Nat.le_refl _⟩ (Nat.le_of_ble_eq_true rfl) rfl dX12_image_8 (fun H locs hH => ?_)
  refine lv_aload_n hx hb dX12_image_11 rfl (lv_at hl 0 rfl) ?_
  refine lv_iconst (v := 1) hx hb dX12_image_12 (by decide) ?_
  refine pf_X12_179 (ws' := WM G ad (ua (ua σ 0 (upd (σ 0) 4 1)) 3 (σ 2))) hC hK hH 0 rfl rfl rfl (Nat.le_of_ble_eq_true rfl) dX12_image_13 rfl (fun H locs hH => ?_)
  refine lv_aload_n hx hb dX12_image_16 rfl (lv_at hl 0 rfl) ?_
  refine gf_X12_13 (v := .ref (ad 2)) hC hK hH 0 rfl rfl dX12_image_17 ?_
  refine lv_iconst (v := 1) hx hb dX12_image_20 (by decide) ?_
  refine x_ialN (f := (σ 2)) hC hK hH 2 1 rfl rfl (by decide) (Nat.le_of_ble_eq_true rfl) dX12_image_21 ?_
  refine x_topE (y := (nI (bK β))) hR.2.1 ?_
  exact x_iret hC hr hkL hH rfl rfl dX12_image_22
set_option maxHeartbeats 4000000 in
set_option maxRecDepth 100000 in
theorem k_X12_on (l : Launch) (G : GP) (ad : Nat → Nat) (σ : Nat → Nat → Int32) : CT l G yX12_on cX12_on 1 (some .int) 1 [.ref (ad 0)] (WM G ad σ) (some (.int (rfA (onC (σ 0 4)) ((σ 3) 1)))) (WM G ad (ua (ua σ 1 (rfz (σ 1) (onC (σ 0 4)))) 2 (ifz (onC (σ 0 4)) (σ 3) (σ 2)))) := by
  refine x_meth "BetsOnBetsModel" rfl (by decide +kernel) (by rfl) (Nat.le_of_ble_eq_true rfl) ?_
  intro pP eE sS mM args below meth cC A ls hC hr hkL hK hZ hA hH hl
  have hx := hC.1
  have hb := hC.2.1
  have hl : lv_has ls 1 [(0, .ref (ad 0))] := hl
  refine lv_aload_n hx hb dX12_on_0 rfl (lv_at hl 0 rfl) ?_
  refine gf_X12_179 (v := .int (σ 0 4)) hC hK hH 0 rfl rfl dX12_on_1 ?_
  refine lv_if_ne (tgt := 14) hx hb dX12_on_4 (by decide) (fun c4 => ?_) (fun c4 => ?_)
  · refine lv_aload_n hx hb dX12_on_14 rfl (lv_at hl 0 rfl) ?_
    refine gf_X12_16 (v := .ref (ad 3)) hC hK hH 0 rfl rfl dX12_on_15 ?_
    refine lv_aload_n hx hb dX12_on_18 rfl (lv_at hl 0 rfl) ?_
    refine gf_X12_13 (v := .ref (ad 2)) hC hK hH 0 rfl rfl dX12_on_19 ?_
    refine x_callS (ws' := WM G ad (ua σ 2 (σ 3))) (As := [.ref (ad 3), .ref (ad 2)]) (rest := []) (st' := []) hC hK hZ hA hl.1 hH (k_X12_copies l G (pk ad [3, 2]) (pk σ [3, 2])) lk_X12_83 [3, 2] rfl rfl rfl rfl ⟨Nat.le_of_ble_eq_true rfl, Nat.le_of_ble_eq_true rfl⟩ ⟨Nat.le_refl _, Nat.le_refl _⟩ (Nat.le_of_ble_eq_true rfl) rfl dX12_on_22 (fun H locs hH => ?_)
    refine lv_aload_n hx hb dX12_on_25 rfl (lv_at hl 0 rfl) ?_
    refine gf_X12_13 (v := .ref (ad 2)) hC hK hH 0 rfl rfl dX12_on_26 ?_
    refine lv_iconst (v := 1) hx hb dX12_on_29 (by decide) ?_
    refine x_ialN (f := (σ 3)) hC hK hH 2 1 rfl rfl (by decide) (Nat.le_of_ble_eq_true rfl) dX12_on_30 ?_
    exact x_iret hC hr hkL hH (by (refine (rfA0 (if_neg c4)).trans ?_); rfl) (((congrArg (fun z_ : Nat → Int32 => WM G ad (ua (ua σ 1 z_) 2 (ifz (onC (σ 0 4)) (σ 3) (σ 2)))) (by exact rfz0 (if_neg c4) : (rfz (σ 1) (onC (σ 0 4))) = (σ 1))).trans (congrArg (fun z_ : Nat → Int32 => WM G ad (ua (ua σ 1 (σ 1)) 2 z_)) (by first | ((refine (ifz0 (if_neg c4)).trans ?_); rfl) | rw [ifz0 (if_neg c4)] : (ifz (onC (σ 0 4)) (σ 3) (σ 2)) = (σ 3)))).trans (show WM G ad (ua (ua σ 1 (σ 1)) 2 (σ 3)) = WM G ad (ua σ 2 (σ 3)) from rfl)) dX12_on_31
  · refine lv_aload_n hx hb dX12_on_7 rfl (lv_at hl 0 rfl) ?_
    refine lv_bipush (v := (-3)) hx hb dX12_on_8 (by decide) ?_
    refine x_callVA (ws' := WM G ad (ua σ 1 (upd (σ 1) 3 ((σ 1) 3 + 1)))) (As := [.int (-3)]) (rest := []) (st' := [.int (-3)]) hC hK hZ hA hl.1 hH (k_X12_refuse l G ad σ (-3) 3 rfl (by decide)) lk_X12_47 rfl 0 11 rfl rfl rfl ⟨Nat.le_of_ble_eq_true rfl, Nat.le_of_ble_eq_true rfl⟩ ⟨Nat.le_refl _, Nat.le_refl _⟩ (Nat.le_of_ble_eq_true rfl) rfl dX12_on_10 (fun H locs hH => ?_)
    exact x_iret hC hr hkL hH (by exact rfAk (if_pos c4) (by decide)) (((congrArg (fun z_ : Nat → Int32 => WM G ad (ua (ua σ 1 z_) 2 (ifz (onC (σ 0 4)) (σ 3) (σ 2)))) (by exact rfzk (if_pos c4) (by decide) : (rfz (σ 1) (onC (σ 0 4))) = (upd (σ 1) 3 ((σ 1) 3 + 1)))).trans (congrArg (fun z_ : Nat → Int32 => WM G ad (ua (ua σ 1 (upd (σ 1) 3 ((σ 1) 3 + 1))) 2 z_)) (by exact ifzk (if_pos c4) (by decide) : (ifz (onC (σ 0 4)) (σ 3) (σ 2)) = (σ 2)))).trans (show WM G ad (ua (ua σ 1 (upd (σ 1) 3 ((σ 1) 3 + 1))) 2 (σ 2)) = WM G ad (ua σ 1 (upd (σ 1) 3 ((σ 1) 3 + 1))) from rfl)) dX12_on_13
set_option maxHeartbeats 4000000 in
set_option maxRecDepth 100000 in
theorem k_X12_count (l : Launch) (G : GP) (ad : Nat → Nat) (σ : Nat → Nat → Int32) (w : Int32) (β : Bk) (hR : RB (σ 2) β) : CT l G yX12_count cX12_count 4 (some .int) 1 [.ref (ad 0), .int w] (WM G ad σ) (some (.int (cntA β (σ 1) (σ 0 14) (σ 0 7) w))) (WM G ad σ) := by
  refine x_meth "BetsOnBetsModel" rfl (by decide +kernel) (by rfl) (Nat.le_of_ble_eq_true rfl) ?_
  intro pP eE sS mM args below meth cC A ls hC hr hkL hK hZ hA hH hl
  have hx := hC.1
  have hb := hC.2.1
  have hl : lv_has ls 4 [(0, .ref (ad 0)), (1, .int w)] := hl
  have hh4 := hR.2.2.1
  have hk6 := hR.2.2.2.1
  have pwh := pw4 hh4
  have pwk := pw6 hk6
  refine lv_iload_n hx hb dX12_count_0 rfl (lv_at hl 1 rfl) ?_
  refine lv_bipush (v := 10) hx hb dX12_count_1 (by decide) ?_
  refine lv_icmp_le (tgt := 22) hx hb dX12_count_3 (by decide) (fun c3 => ?_) (fun c3 => ?_)
  · refine lv_iconst (v := 0) hx hb dX12_count_22 (by decide) ?_
    refine lv_istore_n (lv' := [(2, .int 0), (0, .ref (ad 0)), (1, .int w)]) hx hb dX12_count_23 rfl hl (by decide) rfl (fun ls hl => ?_)
    refine lv_iload_n hx hb dX12_count_24 rfl (lv_at hl 2 rfl) ?_
    rcases sw6 w with h0 | h1 | h2 | h3 | h4 | h5 | hd
    · refine x_topE (y := 0) h0 ?_
      refine lv_tableIn (tgt := 64) hx hb dX12_count_25 (by decide) (by decide) rfl (by decide) ?_
      refine lv_aload_n hx hb dX12_count_64 rfl (lv_at hl 1 rfl) ?_
      refine gf_X12_13 (v := .ref (ad 2)) hC hK hH 0 rfl rfl dX12_count_65 ?_
      refine lv_iload_n hx hb dX12_count_68 rfl (lv_at hl 2 rfl) ?_
      refine x_ialN (f := (σ 2)) hC hK hH 2 0 rfl h0 (by decide) (Nat.le_of_ble_eq_true rfl) dX12_count_69 ?_
      exact x_iret hC hr hkL hH (by first | (rw [h0]; exact (if_neg (by decide)).trans ((if_pos rfl).trans hR.1.symm)) | (rw [h1]; exact (if_neg (by decide)).trans ((if_neg (by decide)).trans ((if_pos rfl).trans hR.2.1.symm)))) rfl dX12_count_70
    · refine x_topE (y := 1) h1 ?_
      refine lv_tableIn (tgt := 64) hx hb dX12_count_25 (by decide) (by decide) rfl (by decide) ?_
      refine lv_aload_n hx hb dX12_count_64 rfl (lv_at hl 1 rfl) ?_
      refine gf_X12_13 (v := .ref (ad 2)) hC hK hH 0 rfl rfl dX12_count_65 ?_
      refine lv_iload_n hx hb dX12_count_68 rfl (lv_at hl 2 rfl) ?_
      refine x_ialN (f := (σ 2)) hC hK hH 2 1 rfl h1 (by decide) (Nat.le_of_ble_eq_true rfl) dX12_count_69 ?_
      exact x_iret hC hr hkL hH (by first | (rw [h0]; exact (if_neg (by decide)).trans ((if_pos rfl).trans hR.1.symm)) | (rw [h1]; exact (if_neg (by decide)).trans ((if_neg (by decide)).trans ((if_pos rfl).trans hR.2.1.symm)))) rfl dX12_count_70
    · refine x_topE (y := 2) h2 ?_
      refine lv_tableIn (tgt := 71) hx hb dX12_count_25 (by decide) (by decide) rfl (by decide) ?_
      refine lv_aload_n hx hb dX12_count_71 rfl (lv_at hl 1 rfl) ?_
      refine x_callVA (ws' := WM G ad σ) (As := []) (rest := []) (st' := [.int (nI (2 ^ bH β))]) hC hK hZ hA hl.1 hH (k_X12_ends l G ad σ β hR) lk_X12_35 rfl 0 11 rfl rfl rfl ⟨Nat.le_of_ble_eq_true rfl, Nat.le_of_ble_eq_true rfl⟩ ⟨Nat.le_refl _, Nat.le_refl _⟩ (Nat.le_of_ble_eq_true rfl) rfl dX12_count_72 (fun H locs hH => ?_)
      exact x_iret hC hr hkL hH (by rw [h2]; exact (if_neg (by decide)).trans ((if_neg (by decide)).trans ((if_neg (by decide)).trans (if_pos rfl)))) rfl dX12_count_75
    · refine x_topE (y := 3) h3 ?_
      refine lv_tableIn (tgt := 76) hx hb dX12_count_25 (by decide) (by decide) rfl (by decide) ?_
      refine lv_iconst (v := 0) hx hb dX12_count_76 (by decide) ?_
      refine lv_istore_n (lv' := [(3, .int 0), (2, .int 0), (0, .ref (ad 0)), (1, .int w)]) hx hb dX12_count_77 rfl hl (by decide) rfl (fun ls hl => ?_)
      refine x_loop (G := G) (A := A) (H0 := sS.heap) (nL := 4) (α := Nat) (fun q_ => (bK β) - q_) (fun q_ => q_ ≤ (bK β)) (fun q_ => WM G ad σ) (fun q_ => [(0, .ref (ad 0)), (1, .int w), (2, .int (stS β q_)), (3, .int (nI q_))]) ?_ 0 (show 0 ≤ (bK β) from (Nat.zero_le _)) ?_ ?_
      · rintro b hi_b ih_b H locs ls hH hl
        replace hi_b : b ≤ (bK β) := hi_b
        replace hH : Hx G A (WM G ad σ) sS.heap H locs := hH
        replace hl : lv_has ls 4 [(0, .ref (ad 0)), (1, .int w), (2, .int (stS β b)), (3, .int (nI b))] := hl
        refine lv_iload_n hx hb dX12_count_78 rfl (lv_at hl 3 rfl) ?_
        refine lv_aload_n hx hb dX12_count_79 rfl (lv_at hl 0 rfl) ?_
        refine gf_X12_13 (v := .ref (ad 2)) hC hK hH 0 rfl rfl dX12_count_80 ?_
        refine lv_iconst (v := 1) hx hb dX12_count_83 (by decide) ?_
        refine x_ialN (f := (σ 2)) hC hK hH 2 1 rfl rfl (by decide) (Nat.le_of_ble_eq_true rfl) dX12_count_84 ?_
        refine lv_icmp_ge (tgt := 103) hx hb dX12_count_85 (by decide) (fun c85 => ?_) (fun c85 => ?_)
        · have ge_b := lp_out (n := bK β) hR.2.1 (by omega) (by omega) c85
          have eq_b : b = bK β := by omega
          refine lv_iload_n hx hb dX12_count_103 rfl (lv_at hl 2 rfl) ?_
          exact x_iret hC hr hkL hH (by rw [h3, eq_b]; exact (if_neg (by decide)).trans ((if_neg (by decide)).trans ((if_neg (by decide)).trans ((if_neg (by decide)).trans (if_pos rfl))))) rfl dX12_count_104
        · have lt_b := lp_in (n := bK β) hR.2.1 (by omega) (by omega) c85
          refine lv_iload_n hx hb dX12_count_88 rfl (lv_at hl 2 rfl) ?_
          refine lv_aload_n hx hb dX12_count_89 rfl (lv_at hl 0 rfl) ?_
          refine lv_iload_n hx hb dX12_count_90 rfl (lv_at hl 3 rfl) ?_
          refine lv_iconst (v := 3) hx hb dX12_count_91 (by decide) ?_
          refine x_callVA (ws' := WM G ad σ) (As := [.int (nI b), .int 3]) (rest := [.int (stS β b)]) (st' := [.int (nm β b 3), .int (stS β b)]) hC hK hZ hA hl.1 hH (k_X12_get l G ad σ (nI b) 3 β b 3 hR rfl rfl (by omega) (by decide)) lk_X12_96 rfl 0 11 rfl rfl rfl ⟨Nat.le_of_ble_eq_true rfl, Nat.le_of_ble_eq_true rfl⟩ ⟨Nat.le_refl _, Nat.le_refl _⟩ (Nat.le_of_ble_eq_true rfl) rfl dX12_count_92 (fun H locs hH => ?_)
          refine lv_iadd hx hb dX12_count_95 ?_
          refine lv_istore_n (lv' := [(2, .int ((stS β b) + (nm β b 3))), (0, .ref (ad 0)), (1, .int w), (3, .int (nI b))]) hx hb dX12_count_96 rfl hl (by decide) rfl (fun ls hl => ?_)
          refine lv_iinc (v := ((nI b) + 1)) (lv' := [(3, .int ((nI b) + 1)), (2, .int ((stS β b) + (nm β b 3))), (0, .ref (ad 0)), (1, .int w)]) hx hb dX12_count_97 hl (k := 3) rfl rfl (by decide) rfl (fun ls hl => ?_)
          refine lv_goto (tgt := 78) hx hb dX12_count_100 (by decide) ?_
          exact ih_b (b + 1) (show (b + 1) ≤ (bK β) from (by omega)) (show (bK β) - (b + 1) < (bK β) - b from (by omega)) _ _ _ (hH.eq rfl) (lv_eq (lv_sub hl [2, 3, 1, 0] rfl) (lc_s (lc_s (lc_i (by rfl : ((stS β b) + (nm β b 3)) = (stS β (b + 1))) (lc_i (by exact nI_1 _ : ((nI b) + 1) = (nI (b + 1))) rfl)))))
      · exact hH.eq rfl
      · exact lv_eq (lv_sub hl [2, 3, 1, 0] rfl) (lc_s (lc_s (lc_i (by rfl : 0 = (stS β 0)) (lc_i (by rfl : 0 = (nI 0)) rfl))))
    · refine x_topE (y := 4) h4 ?_
      refine lv_tableIn (tgt := 105) hx hb dX12_count_25 (by decide) (by decide) rfl (by decide) ?_
      refine lv_aload_n hx hb dX12_count_105 rfl (lv_at hl 1 rfl) ?_
      refine gf_X12_170 (v := .int (σ 0 14)) hC hK hH 0 rfl rfl dX12_count_106 ?_
      exact x_iret hC hr hkL hH (by rw [h4]; exact (if_neg (by decide)).trans ((if_neg (by decide)).trans ((if_neg (by decide)).trans ((if_neg (by decide)).trans ((if_neg (by decide)).trans (if_pos rfl)))))) rfl dX12_count_109
    · refine x_topE (y := 5) h5 ?_
      refine lv_tableIn (tgt := 110) hx hb dX12_count_25 (by decide) (by decide) rfl (by decide) ?_
      refine lv_aload_n hx hb dX12_count_110 rfl (lv_at hl 1 rfl) ?_
      refine gf_X12_43 (v := .int (σ 0 7)) hC hK hH 0 rfl rfl dX12_count_111 ?_
      exact x_iret hC hr hkL hH (by rw [h5]; exact (if_neg (by decide)).trans ((if_neg (by decide)).trans ((if_neg (by decide)).trans ((if_neg (by decide)).trans ((if_neg (by decide)).trans ((if_neg (by decide)).trans (if_pos rfl))))))) rfl dX12_count_114
    · refine lv_tableOut (tgt := 115) hx hb dX12_count_25 hd (by decide) ?_
      refine lv_bipush (v := (-9)) hx hb dX12_count_115 (by decide) ?_
      exact x_iret hC hr hkL hH (by exact cntA_d (by first | exact fun z => absurd z.1 (Int32.not_lt.mpr c3) | exact fun z => absurd z.2 (Int32.not_lt.mpr c9)) hd) rfl dX12_count_117
  · refine lv_iload_n hx hb dX12_count_6 rfl (lv_at hl 1 rfl) ?_
    refine lv_bipush (v := 17) hx hb dX12_count_7 (by decide) ?_
    refine lv_icmp_ge (tgt := 22) hx hb dX12_count_9 (by decide) (fun c9 => ?_) (fun c9 => ?_)
    · refine lv_iconst (v := 0) hx hb dX12_count_22 (by decide) ?_
      refine lv_istore_n (lv' := [(2, .int 0), (0, .ref (ad 0)), (1, .int w)]) hx hb dX12_count_23 rfl hl (by decide) rfl (fun ls hl => ?_)
      refine lv_iload_n hx hb dX12_count_24 rfl (lv_at hl 2 rfl) ?_
      rcases sw6 w with h0 | h1 | h2 | h3 | h4 | h5 | hd
      · refine x_topE (y := 0) h0 ?_
        refine lv_tableIn (tgt := 64) hx hb dX12_count_25 (by decide) (by decide) rfl (by decide) ?_
        refine lv_aload_n hx hb dX12_count_64 rfl (lv_at hl 1 rfl) ?_
        refine gf_X12_13 (v := .ref (ad 2)) hC hK hH 0 rfl rfl dX12_count_65 ?_
        refine lv_iload_n hx hb dX12_count_68 rfl (lv_at hl 2 rfl) ?_
        refine x_ialN (f := (σ 2)) hC hK hH 2 0 rfl h0 (by decide) (Nat.le_of_ble_eq_true rfl) dX12_count_69 ?_
        exact x_iret hC hr hkL hH (by first | (rw [h0]; exact (if_neg (by decide)).trans ((if_pos rfl).trans hR.1.symm)) | (rw [h1]; exact (if_neg (by decide)).trans ((if_neg (by decide)).trans ((if_pos rfl).trans hR.2.1.symm)))) rfl dX12_count_70
      · refine x_topE (y := 1) h1 ?_
        refine lv_tableIn (tgt := 64) hx hb dX12_count_25 (by decide) (by decide) rfl (by decide) ?_
        refine lv_aload_n hx hb dX12_count_64 rfl (lv_at hl 1 rfl) ?_
        refine gf_X12_13 (v := .ref (ad 2)) hC hK hH 0 rfl rfl dX12_count_65 ?_
        refine lv_iload_n hx hb dX12_count_68 rfl (lv_at hl 2 rfl) ?_
        refine x_ialN (f := (σ 2)) hC hK hH 2 1 rfl h1 (by decide) (Nat.le_of_ble_eq_true rfl) dX12_count_69 ?_
        exact x_iret hC hr hkL hH (by first | (rw [h0]; exact (if_neg (by decide)).trans ((if_pos rfl).trans hR.1.symm)) | (rw [h1]; exact (if_neg (by decide)).trans ((if_neg (by decide)).trans ((if_pos rfl).trans hR.2.1.symm)))) rfl dX12_count_70
      · refine x_topE (y := 2) h2 ?_
        refine lv_tableIn (tgt := 71) hx hb dX12_count_25 (by decide) (by decide) rfl (by decide) ?_
        refine lv_aload_n hx hb dX12_count_71 rfl (lv_at hl 1 rfl) ?_
        refine x_callVA (ws' := WM G ad σ) (As := []) (rest := []) (st' := [.int (nI (2 ^ bH β))]) hC hK hZ hA hl.1 hH (k_X12_ends l G ad σ β hR) lk_X12_35 rfl 0 11 rfl rfl rfl ⟨Nat.le_of_ble_eq_true rfl, Nat.le_of_ble_eq_true rfl⟩ ⟨Nat.le_refl _, Nat.le_refl _⟩ (Nat.le_of_ble_eq_true rfl) rfl dX12_count_72 (fun H locs hH => ?_)
        exact x_iret hC hr hkL hH (by rw [h2]; exact (if_neg (by decide)).trans ((if_neg (by decide)).trans ((if_neg (by decide)).trans (if_pos rfl)))) rfl dX12_count_75
      · refine x_topE (y := 3) h3 ?_
        refine lv_tableIn (tgt := 76) hx hb dX12_count_25 (by decide) (by decide) rfl (by decide) ?_
        refine lv_iconst (v := 0) hx hb dX12_count_76 (by decide) ?_
        refine lv_istore_n (lv' := [(3, .int 0), (2, .int 0), (0, .ref (ad 0)), (1, .int w)]) hx hb dX12_count_77 rfl hl (by decide) rfl (fun ls hl => ?_)
        refine x_loop (G := G) (A := A) (H0 := sS.heap) (nL := 4) (α := Nat) (fun q_ => (bK β) - q_) (fun q_ => q_ ≤ (bK β)) (fun q_ => WM G ad σ) (fun q_ => [(0, .ref (ad 0)), (1, .int w), (2, .int (stS β q_)), (3, .int (nI q_))]) ?_ 0 (show 0 ≤ (bK β) from (Nat.zero_le _)) ?_ ?_
        · rintro b hi_b ih_b H locs ls hH hl
          replace hi_b : b ≤ (bK β) := hi_b
          replace hH : Hx G A (WM G ad σ) sS.heap H locs := hH
          replace hl : lv_has ls 4 [(0, .ref (ad 0)), (1, .int w), (2, .int (stS β b)), (3, .int (nI b))] := hl
          refine lv_iload_n hx hb dX12_count_78 rfl (lv_at hl 3 rfl) ?_
          refine lv_aload_n hx hb dX12_count_79 rfl (lv_at hl 0 rfl) ?_
          refine gf_X12_13 (v := .ref (ad 2)) hC hK hH 0 rfl rfl dX12_count_80 ?_
          refine lv_iconst (v := 1) hx hb dX12_count_83 (by decide) ?_
          refine x_ialN (f := (σ 2)) hC hK hH 2 1 rfl rfl (by decide) (Nat.le_of_ble_eq_true rfl) dX12_count_84 ?_
          refine lv_icmp_ge (tgt := 103) hx hb dX12_count_85 (by decide) (fun c85 => ?_) (fun c85 => ?_)
          · have ge_b := lp_out (n := bK β) hR.2.1 (by omega) (by omega) c85
            have eq_b : b = bK β := by omega
            refine lv_iload_n hx hb dX12_count_103 rfl (lv_at hl 2 rfl) ?_
            exact x_iret hC hr hkL hH (by rw [h3, eq_b]; exact (if_neg (by decide)).trans ((if_neg (by decide)).trans ((if_neg (by decide)).trans ((if_neg (by decide)).trans (if_pos rfl))))) rfl dX12_count_104
          · have lt_b := lp_in (n := bK β) hR.2.1 (by omega) (by omega) c85
            refine lv_iload_n hx hb dX12_count_88 rfl (lv_at hl 2 rfl) ?_
            refine lv_aload_n hx hb dX12_count_89 rfl (lv_at hl 0 rfl) ?_
            refine lv_iload_n hx hb dX12_count_90 rfl (lv_at hl 3 rfl) ?_
            refine lv_iconst (v := 3) hx hb dX12_count_91 (by decide) ?_
            refine x_callVA (ws' := WM G ad σ) (As := [.int (nI b), .int 3]) (rest := [.int (stS β b)]) (st' := [.int (nm β b 3), .int (stS β b)]) hC hK hZ hA hl.1 hH (k_X12_get l G ad σ (nI b) 3 β b 3 hR rfl rfl (by omega) (by decide)) lk_X12_96 rfl 0 11 rfl rfl rfl ⟨Nat.le_of_ble_eq_true rfl, Nat.le_of_ble_eq_true rfl⟩ ⟨Nat.le_refl _, Nat.le_refl _⟩ (Nat.le_of_ble_eq_true rfl) rfl dX12_count_92 (fun H locs hH => ?_)
            refine lv_iadd hx hb dX12_count_95 ?_
            refine lv_istore_n (lv' := [(2, .int ((stS β b) + (nm β b 3))), (0, .ref (ad 0)), (1, .int w), (3, .int (nI b))]) hx hb dX12_count_96 rfl hl (by decide) rfl (fun ls hl => ?_)
            refine lv_iinc (v := ((nI b) + 1)) (lv' := [(3, .int ((nI b) + 1)), (2, .int ((stS β b) + (nm β b 3))), (0, .ref (ad 0)), (1, .int w)]) hx hb dX12_count_97 hl (k := 3) rfl rfl (by decide) rfl (fun ls hl => ?_)
            refine lv_goto (tgt := 78) hx hb dX12_count_100 (by decide) ?_
            exact ih_b (b + 1) (show (b + 1) ≤ (bK β) from (by omega)) (show (bK β) - (b + 1) < (bK β) - b from (by omega)) _ _ _ (hH.eq rfl) (lv_eq (lv_sub hl [2, 3, 1, 0] rfl) (lc_s (lc_s (lc_i (by rfl : ((stS β b) + (nm β b 3)) = (stS β (b + 1))) (lc_i (by exact nI_1 _ : ((nI b) + 1) = (nI (b + 1))) rfl)))))
        · exact hH.eq rfl
        · exact lv_eq (lv_sub hl [2, 3, 1, 0] rfl) (lc_s (lc_s (lc_i (by rfl : 0 = (stS β 0)) (lc_i (by rfl : 0 = (nI 0)) rfl))))
      · refine x_topE (y := 4) h4 ?_
        refine lv_tableIn (tgt := 105) hx hb dX12_count_25 (by decide) (by decide) rfl (by decide) ?_
        refine lv_aload_n hx hb dX12_count_105 rfl (lv_at hl 1 rfl) ?_
        refine gf_X12_170 (v := .int (σ 0 14)) hC hK hH 0 rfl rfl dX12_count_106 ?_
        exact x_iret hC hr hkL hH (by rw [h4]; exact (if_neg (by decide)).trans ((if_neg (by decide)).trans ((if_neg (by decide)).trans ((if_neg (by decide)).trans ((if_neg (by decide)).trans (if_pos rfl)))))) rfl dX12_count_109
      · refine x_topE (y := 5) h5 ?_
        refine lv_tableIn (tgt := 110) hx hb dX12_count_25 (by decide) (by decide) rfl (by decide) ?_
        refine lv_aload_n hx hb dX12_count_110 rfl (lv_at hl 1 rfl) ?_
        refine gf_X12_43 (v := .int (σ 0 7)) hC hK hH 0 rfl rfl dX12_count_111 ?_
        exact x_iret hC hr hkL hH (by rw [h5]; exact (if_neg (by decide)).trans ((if_neg (by decide)).trans ((if_neg (by decide)).trans ((if_neg (by decide)).trans ((if_neg (by decide)).trans ((if_neg (by decide)).trans (if_pos rfl))))))) rfl dX12_count_114
      · refine lv_tableOut (tgt := 115) hx hb dX12_count_25 hd (by decide) ?_
        refine lv_bipush (v := (-9)) hx hb dX12_count_115 (by decide) ?_
        exact x_iret hC hr hkL hH (by exact cntA_d (by first | exact fun z => absurd z.1 (Int32.not_lt.mpr c3) | exact fun z => absurd z.2 (Int32.not_lt.mpr c9)) hd) rfl dX12_count_117
    · obtain ⟨j_, hj_, ej_⟩ := cnt_in (Int32.not_le.mp c3) (Int32.not_le.mp c9)
      refine lv_aload_n hx hb dX12_count_12 rfl (lv_at hl 0 rfl) ?_
      refine gf_X12_7 (v := .ref (ad 1)) hC hK hH 0 rfl rfl dX12_count_13 ?_
      refine lv_iload_n hx hb dX12_count_16 rfl (lv_at hl 1 rfl) ?_
      refine lv_bipush (v := 10) hx hb dX12_count_17 (by decide) ?_
      refine lv_isub hx hb dX12_count_19 ?_
      refine x_ialN (f := (σ 1)) hC hK hH 1 j_ rfl ej_ hj_ (Nat.le_of_ble_eq_true rfl) dX12_count_20 ?_
      exact x_iret hC hr hkL hH (by rw [cntA_in (Int32.not_le.mp c3) (Int32.not_le.mp c9), ej_, nI_clamp (by omega)]) rfl dX12_count_21
