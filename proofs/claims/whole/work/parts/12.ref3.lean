/-! what the calls answer, by code (0: it is done; else the refusal's number) and value -/
def wiC (v a b : Int32) : Nat := if v < a then 4 else if b < v then 6 else 0
def rfA (c : Nat) (x : Int32) : Int32 := if c = 0 then x else -(nI c)
def rfB (c : Nat) (x : Int32) : Int32 := if c = 0 then x else 1000000000 - -(nI c)
theorem rfA0 {c : Nat} {x : Int32} (h : c = 0) : rfA c x = x := if_pos h
theorem rfAk {c k : Nat} {x : Int32} (h : c = k) (hk : k ≠ 0) : rfA c x = -(nI k) := by subst h; exact if_neg hk
theorem rfB0 {c : Nat} {x : Int32} (h : c = 0) : rfB c x = x := if_pos h
theorem rfBk {c k : Nat} {x : Int32} (h : c = k) (hk : k ≠ 0) : rfB c x = 1000000000 - -(nI k) := by subst h; exact if_neg hk
theorem rfz0 {c : Nat} {ρ : Nat → Int32} (h : c = 0) : rfz ρ c = ρ := if_pos h
theorem rfzk {c k : Nat} {ρ : Nat → Int32} (h : c = k) (hk : k ≠ 0) : rfz ρ c = upd ρ k (ρ k + 1) := by subst h; exact if_neg hk
def ifz {α : Type} (c : Nat) (a b : α) : α := if c = 0 then a else b
theorem ifz0 {α : Type} {c : Nat} {a b : α} (h : c = 0) : ifz c a b = a := if_pos h
theorem ifzk {α : Type} {c k : Nat} {a b : α} (h : c = k) (hk : k ≠ 0) : ifz c a b = b := by subst h; exact if_neg hk
theorem wiC4 {v a b : Int32} (h : v < a) : wiC v a b = 4 := if_pos h
theorem wiC6 {v a b : Int32} (h : ¬ v < a) (h2 : b < v) : wiC v a b = 6 := (if_neg h).trans (if_pos h2)
theorem wiC0 {v a b : Int32} (h : ¬ v < a) (h2 : ¬ b < v) : wiC v a b = 0 := (if_neg h).trans (if_neg h2)
theorem upd_at {f : Nat → Int32} {i : Nat} {v w : Int32} : upd (upd f i v) i w = upd f i w := by
  funext j; simp only [upd]; split <;> rfl
theorem upd_id {f : Nat → Int32} {i : Nat} {v : Int32} (h : v = f i) : upd f i v = f := by
  funext j; simp only [upd]; split
  · rename_i e; rw [h, e]
  · rfl
noncomputable def hbC (h : Int32) (n : Nat) : Nat := cI (inb h n) 0 1
noncomputable def betC (k : Nat) (b w : Int32) : Nat := cI (inb b k) (cI (inb w 7) 0 2) 1
noncomputable def setC (k : Nat) (b w v : Int32) : Nat := cI (inb b k) (cI (inb w 2) (wiC v (if w = 0 then 1 else 0) (if w = 0 then 99 else 9)) 2) 1
noncomputable def fundC (p v : Int32) : Nat := cI (inb p 4) (wiC v 0 99) 1
def letC (n : Nat) (c mx : Int32) (full : Nat) : Nat := if c < 0 then 4 else if mx < c then 6 else if n = full then 6 else 0
theorem letC4 {n full : Nat} {c mx : Int32} (h : c < 0) : letC n c mx full = 4 := if_pos h
theorem letC6 {n full : Nat} {c mx : Int32} (h : ¬ c < 0) (h2 : mx < c) : letC n c mx full = 6 := (if_neg h).trans (if_pos h2)
theorem letCf {n full : Nat} {c mx : Int32} (h : ¬ c < 0) (h2 : ¬ mx < c) (h3 : n = full) : letC n c mx full = 6 := (if_neg h).trans ((if_neg h2).trans (if_pos h3))
theorem letC0 {n full : Nat} {c mx : Int32} (h : ¬ c < 0) (h2 : ¬ mx < c) (h3 : ¬ n = full) : letC n c mx full = 0 := (if_neg h).trans ((if_neg h2).trans (if_neg h3))
noncomputable def exC (p w : Int32) (n : Nat) : Nat := cI (inb p n) (cI (inb w 2) 0 2) 1
noncomputable def ebC (a : Int32) (n : Nat) (b : Int32) (m : Nat) : Nat := cI (inb a n) (cI (inb b m) 0 1) 1
noncomputable def wrongF (p w : Int32) : Int32 := cI (inb p 4) (cI (inb w 2) 0 (-2)) (-1)
theorem wrongF_cases (p w : Int32) : (¬ inb p 4 ∧ wrongF p w = -1) ∨ (inb p 4 ∧ ¬ inb w 2 ∧ wrongF p w = -2) ∨ (inb p 4 ∧ inb w 2 ∧ wrongF p w = 0) := by
  by_cases h : inb p 4
  · by_cases h2 : inb w 2
    · exact Or.inr (Or.inr ⟨h, h2, (cI_t h).trans (cI_t h2)⟩)
    · exact Or.inr (Or.inl ⟨h, h2, (cI_t h).trans (cI_f h2)⟩)
  · exact Or.inl ⟨h, cI_f h⟩
theorem whl_ne : ∀ n, n < 5 → ¬ whl n = 0 := by decide
noncomputable def sumM (β : Bk) (p : Int32) : Nat → Int64
  | 0 => 0
  | e + 1 => sumM β p e + wgtA β (nI e) * (purA β p (nI e)).toInt64
noncomputable def meanA (β : Bk) (p : Int32) : Int32 := (100 * sumM β p (2 ^ bH β) / whl (bH β)).toInt32
noncomputable def wEnd (β : Bk) (p : Int32) : Nat → Nat
  | 0 => 0
  | e + 1 => if purA β p (nI e) < purA β p (nI (wEnd β p e)) then e else wEnd β p e
noncomputable def bEnd (β : Bk) (p : Int32) : Nat → Nat
  | 0 => 0
  | e + 1 => if purA β p (nI (bEnd β p e)) < purA β p (nI e) then e else bEnd β p e
theorem wEnd_t {β : Bk} {p : Int32} {e : Nat} (h : purA β p (nI e) < purA β p (nI (wEnd β p e))) : wEnd β p (e + 1) = e := if_pos h
theorem wEnd_f {β : Bk} {p : Int32} {e : Nat} (h : ¬ purA β p (nI e) < purA β p (nI (wEnd β p e))) : wEnd β p (e + 1) = wEnd β p e := if_neg h
theorem bEnd_t {β : Bk} {p : Int32} {e : Nat} (h : purA β p (nI (bEnd β p e)) < purA β p (nI e)) : bEnd β p (e + 1) = e := if_pos h
theorem bEnd_f {β : Bk} {p : Int32} {e : Nat} (h : ¬ purA β p (nI (bEnd β p e)) < purA β p (nI e)) : bEnd β p (e + 1) = bEnd β p e := if_neg h
theorem wEnd_1 (β : Bk) (p : Int32) : wEnd β p 1 = 0 := wEnd_f (Int32.lt_irrefl)
theorem bEnd_1 (β : Bk) (p : Int32) : bEnd β p 1 = 0 := bEnd_f (Int32.lt_irrefl)
noncomputable def wEA (β : Bk) (p : Int32) : Nat := wEnd β p (2 ^ bH β)
noncomputable def bEA (β : Bk) (p : Int32) : Nat := bEnd β p (2 ^ bH β)
noncomputable def worV (β : Bk) (p : Int32) : Int32 := purA β p (nI (wEA β p))
noncomputable def besV (β : Bk) (p : Int32) : Int32 := purA β p (nI (bEA β p))
noncomputable def sureA (β : Bk) (p : Int32) : Int32 := if 0 ≤ worV β p then if 0 < besV β p then 1 else 0 else 0
noncomputable def sumL (β : Bk) (p : Int32) : Nat → Int64
  | 0 => 0
  | e + 1 => sumL β p e + (if 0 < purA β p (nI e) then wgtA β (nI e) else 0)
noncomputable def likA (β : Bk) (p : Int32) : Int32 := (100 * sumL β p (2 ^ bH β) / whl (bH β)).toInt32
noncomputable def vIn (β : Bk) (e : Int32) (s : Int32) : Nat → Int32
  | 0 => s
  | b + 1 => if stP β e b = 2 then vIn β e s b ||| (1 : Int32) <<< (nI b &&& 31) else vIn β e s b
noncomputable def vOut (β : Bk) : Nat → Int32
  | 0 => 0
  | e + 1 => vIn β (nI e) (vOut β e) (bK β)
theorem vIn_t {β : Bk} {e s : Int32} {b : Nat} (h : stP β e b = 2) : vIn β e s (b + 1) = vIn β e s b ||| (1 : Int32) <<< (nI b &&& 31) := if_pos h
theorem vIn_f {β : Bk} {e s : Int32} {b : Nat} (h : ¬ stP β e b = 2) : vIn β e s (b + 1) = vIn β e s b := if_neg h
noncomputable def hosA (β : Bk) : Nat → Nat
  | 0 => 0
  | p + 1 => if meanA β (nI (hosA β p)) < meanA β (nI p) then p else hosA β p
theorem hosA_t {β : Bk} {p : Nat} (h : meanA β (nI (hosA β p)) < meanA β (nI p)) : hosA β (p + 1) = p := if_pos h
theorem hosA_f {β : Bk} {p : Nat} (h : ¬ meanA β (nI (hosA β p)) < meanA β (nI p)) : hosA β (p + 1) = hosA β p := if_neg h
theorem hosA_1 (β : Bk) : hosA β 1 = 0 := hosA_f (Int32.lt_irrefl)
set_option maxHeartbeats 4000000 in
set_option maxRecDepth 100000 in
theorem k_X12_chance (l : Launch) (G : GP) (ad : Nat → Nat) (σ : Nat → Nat → Int32) (v : Int32) (β : Bk) (hR : RB (σ 2) β) : CT l G yX12_chance cX12_chance 2 (some .int) 1 [.ref (ad 0), .int v] (WM G ad σ) (some (.int (rfA (hbC v (bH β)) (bC β (v).toNatClampNeg)))) (WM G ad (ua σ 1 (rfz (σ 1) (hbC v (bH β))))) := by
  refine x_meth "BetsOnBetsModel" rfl (by decide +kernel) (by rfl) (Nat.le_of_ble_eq_true rfl) ?_
  intro pP eE sS mM args below meth cC A ls hC hr hkL hK hZ hA hH hl
  have hx := hC.1
  have hb := hC.2.1
  have hl : lv_has ls 2 [(0, .ref (ad 0)), (1, .int v)] := hl
  have hh4 := hR.2.2.1
  have hk6 := hR.2.2.2.1
  have pwh := pw4 hh4
  have pwk := pw6 hk6
  refine lv_iload_n hx hb dX12_chance_0 rfl (lv_at hl 1 rfl) ?_
  refine lv_aload_n hx hb dX12_chance_1 rfl (lv_at hl 0 rfl) ?_
  refine gf_X12_13 (v := .ref (ad 2)) hC hK hH 0 rfl rfl dX12_chance_2 ?_
  refine lv_iconst (v := 0) hx hb dX12_chance_5 (by decide) ?_
  refine x_ialN (f := (σ 2)) hC hK hH 2 0 rfl rfl (by decide) (Nat.le_of_ble_eq_true rfl) dX12_chance_6 ?_
  refine x_topE (y := (nI (bH β))) (hR.1) ?_
  refine x_callS (ws' := WM G ad σ) (As := [.int v, .int (nI (bH β))]) (rest := []) (st' := [.int (bI (0 ≤ v ∧ v < (nI (bH β))))]) hC hK hZ hA hl.1 hH (k_X12_isIn l G (pk ad []) (pk σ []) v (nI (bH β))) lk_X12_31 [] rfl rfl rfl rfl ⟨Nat.le_of_ble_eq_true rfl, Nat.le_of_ble_eq_true rfl⟩ ⟨Nat.le_refl _, Nat.le_refl _⟩ (Nat.le_of_ble_eq_true rfl) rfl dX12_chance_7 (fun H locs hH => ?_)
  refine x_beq (tgt := 24) hC dX12_chance_10 (by decide) (fun c10 => ?_) (fun c10 => ?_)
  · refine lv_aload_n hx hb dX12_chance_24 rfl (lv_at hl 0 rfl) ?_
    refine lv_iconst (v := (-1)) hx hb dX12_chance_25 (by decide) ?_
    refine x_callVA (ws' := WM G ad (ua σ 1 (upd (σ 1) 1 ((σ 1) 1 + 1)))) (As := [.int (-1)]) (rest := []) (st' := [.int (-1)]) hC hK hZ hA hl.1 hH (k_X12_refuse l G ad σ (-1) 1 rfl (by decide)) lk_X12_47 rfl 0 11 rfl rfl rfl ⟨Nat.le_of_ble_eq_true rfl, Nat.le_of_ble_eq_true rfl⟩ ⟨Nat.le_refl _, Nat.le_refl _⟩ (Nat.le_of_ble_eq_true rfl) rfl dX12_chance_26 (fun H locs hH => ?_)
    exact x_iret hC hr hkL hH (by exact rfAk (cI_f c10) (by decide)) (congrArg (fun z_ : Nat → Int32 => WM G ad (ua σ 1 z_)) (by exact rfzk (cI_f c10) (by decide) : (rfz (σ 1) (hbC v (bH β))) = (upd (σ 1) 1 ((σ 1) 1 + 1)))) dX12_chance_29
  · obtain ⟨j_, hj_, ev_⟩ := inb_of (by omega) c10
    refine lv_aload_n hx hb dX12_chance_13 rfl (lv_at hl 0 rfl) ?_
    refine gf_X12_13 (v := .ref (ad 2)) hC hK hH 0 rfl rfl dX12_chance_14 ?_
    refine lv_iconst (v := 2) hx hb dX12_chance_17 (by decide) ?_
    refine lv_iload_n hx hb dX12_chance_18 rfl (lv_at hl 1 rfl) ?_
    refine lv_iadd hx hb dX12_chance_19 ?_
    refine x_ialN (f := (σ 2)) hC hK hH 2 (2 + j_) rfl (by rw [ev_, nIa]; rfl) (by omega) (Nat.le_of_ble_eq_true rfl) dX12_chance_20 ?_
    refine x_topE (y := (bC β j_)) (hR.2.2.2.2.1 _ (by omega)) ?_
    refine lv_goto (tgt := 29) hx hb dX12_chance_21 (by decide) ?_
    exact x_iret hC hr hkL hH (by (refine (rfA0 (cI_t c10)).trans ?_); rw [ev_, nI_clamp (by omega)]) ((congrArg (fun z_ : Nat → Int32 => WM G ad (ua σ 1 z_)) (by exact rfz0 (cI_t c10) : (rfz (σ 1) (hbC v (bH β))) = (σ 1))).trans (show WM G ad (ua σ 1 (σ 1)) = WM G ad σ from rfl)) dX12_chance_29
set_option maxHeartbeats 4000000 in
set_option maxRecDepth 100000 in
theorem k_X12_bet (l : Launch) (G : GP) (ad : Nat → Nat) (σ : Nat → Nat → Int32) (b : Int32) (w : Int32) (β : Bk) (hR : RB (σ 2) β) : CT l G yX12_bet cX12_bet 3 (some .int) 2 [.ref (ad 0), .int b, .int w] (WM G ad σ) (some (.int (rfA (betC (bK β) b w) (nm β (b).toNatClampNeg (w).toNatClampNeg)))) (WM G ad (ua σ 1 (rfz (σ 1) (betC (bK β) b w)))) := by
  refine x_meth "BetsOnBetsModel" rfl (by decide +kernel) (by rfl) (Nat.le_of_ble_eq_true rfl) ?_
  intro pP eE sS mM args below meth cC A ls hC hr hkL hK hZ hA hH hl
  have hx := hC.1
  have hb := hC.2.1
  have hl : lv_has ls 3 [(0, .ref (ad 0)), (1, .int b), (2, .int w)] := hl
  have hh4 := hR.2.2.1
  have hk6 := hR.2.2.2.1
  have pwh := pw4 hh4
  have pwk := pw6 hk6
  refine lv_aload_n hx hb dX12_bet_0 rfl (lv_at hl 0 rfl) ?_
  refine lv_iload_n hx hb dX12_bet_1 rfl (lv_at hl 1 rfl) ?_
  refine x_callVA (ws' := WM G ad σ) (As := [.int b]) (rest := []) (st' := [.int (bI (0 ≤ b ∧ b < nI (bK β)))]) hC hK hZ hA hl.1 hH (k_X12_isBet l G ad σ b β hR) lk_X12_93 rfl 0 11 rfl rfl rfl ⟨Nat.le_of_ble_eq_true rfl, Nat.le_of_ble_eq_true rfl⟩ ⟨Nat.le_refl _, Nat.le_refl _⟩ (Nat.le_of_ble_eq_true rfl) rfl dX12_bet_2 (fun H locs hH => ?_)
  refine x_bne (tgt := 16) hC dX12_bet_5 (by decide) (fun c5 => ?_) (fun c5 => ?_)
  · refine lv_iload_n hx hb dX12_bet_16 rfl (lv_at hl 2 rfl) ?_
    refine lv_bipush (v := 7) hx hb dX12_bet_17 (by decide) ?_
    refine x_callS (ws' := WM G ad σ) (As := [.int w, .int 7]) (rest := []) (st' := [.int (bI (0 ≤ w ∧ w < 7))]) hC hK hZ hA hl.1 hH (k_X12_isIn l G (pk ad []) (pk σ []) w 7) lk_X12_31 [] rfl rfl rfl rfl ⟨Nat.le_of_ble_eq_true rfl, Nat.le_of_ble_eq_true rfl⟩ ⟨Nat.le_refl _, Nat.le_refl _⟩ (Nat.le_of_ble_eq_true rfl) rfl dX12_bet_19 (fun H locs hH => ?_)
    refine x_beq (tgt := 34) hC dX12_bet_22 (by decide) (fun c22 => ?_) (fun c22 => ?_)
    · refine lv_aload_n hx hb dX12_bet_34 rfl (lv_at hl 0 rfl) ?_
      refine lv_bipush (v := (-2)) hx hb dX12_bet_35 (by decide) ?_
      refine x_callVA (ws' := WM G ad (ua σ 1 (upd (σ 1) 2 ((σ 1) 2 + 1)))) (As := [.int (-2)]) (rest := []) (st' := [.int (-2)]) hC hK hZ hA hl.1 hH (k_X12_refuse l G ad σ (-2) 2 rfl (by decide)) lk_X12_47 rfl 0 11 rfl rfl rfl ⟨Nat.le_of_ble_eq_true rfl, Nat.le_of_ble_eq_true rfl⟩ ⟨Nat.le_refl _, Nat.le_refl _⟩ (Nat.le_of_ble_eq_true rfl) rfl dX12_bet_37 (fun H locs hH => ?_)
      exact x_iret hC hr hkL hH (by exact rfAk ((cI_t c5).trans (cI_f c22)) (by decide)) (congrArg (fun z_ : Nat → Int32 => WM G ad (ua σ 1 z_)) (by exact rfzk ((cI_t c5).trans (cI_f c22)) (by decide) : (rfz (σ 1) (betC (bK β) b w)) = (upd (σ 1) 2 ((σ 1) 2 + 1)))) dX12_bet_40
    · obtain ⟨bj_, hbj_, eb_⟩ := inb_of (by omega) c5
      obtain ⟨wj_, hwj_, ew_⟩ := inb_of (k := 7) (by omega) c22
      refine lv_aload_n hx hb dX12_bet_25 rfl (lv_at hl 0 rfl) ?_
      refine lv_iload_n hx hb dX12_bet_26 rfl (lv_at hl 1 rfl) ?_
      refine lv_iload_n hx hb dX12_bet_27 rfl (lv_at hl 2 rfl) ?_
      refine x_callVA (ws' := WM G ad σ) (As := [.int b, .int w]) (rest := []) (st' := [.int (nm β bj_ wj_)]) hC hK hZ hA hl.1 hH (k_X12_get l G ad σ b w β bj_ wj_ hR eb_ ew_ (by omega) hwj_) lk_X12_96 rfl 0 11 rfl rfl rfl ⟨Nat.le_of_ble_eq_true rfl, Nat.le_of_ble_eq_true rfl⟩ ⟨Nat.le_refl _, Nat.le_refl _⟩ (Nat.le_of_ble_eq_true rfl) rfl dX12_bet_28 (fun H locs hH => ?_)
      refine lv_goto (tgt := 40) hx hb dX12_bet_31 (by decide) ?_
      exact x_iret hC hr hkL hH (by (refine (rfA0 ((cI_t c5).trans (cI_t c22))).trans ?_); rw [eb_, ew_, nI_clamp (by omega), nI_clamp (by omega)]) ((congrArg (fun z_ : Nat → Int32 => WM G ad (ua σ 1 z_)) (by exact rfz0 ((cI_t c5).trans (cI_t c22)) : (rfz (σ 1) (betC (bK β) b w)) = (σ 1))).trans (show WM G ad (ua σ 1 (σ 1)) = WM G ad σ from rfl)) dX12_bet_40
  · refine lv_aload_n hx hb dX12_bet_8 rfl (lv_at hl 0 rfl) ?_
    refine lv_iconst (v := (-1)) hx hb dX12_bet_9 (by decide) ?_
    refine x_callVA (ws' := WM G ad (ua σ 1 (upd (σ 1) 1 ((σ 1) 1 + 1)))) (As := [.int (-1)]) (rest := []) (st' := [.int (-1)]) hC hK hZ hA hl.1 hH (k_X12_refuse l G ad σ (-1) 1 rfl (by decide)) lk_X12_47 rfl 0 11 rfl rfl rfl ⟨Nat.le_of_ble_eq_true rfl, Nat.le_of_ble_eq_true rfl⟩ ⟨Nat.le_refl _, Nat.le_refl _⟩ (Nat.le_of_ble_eq_true rfl) rfl dX12_bet_10 (fun H locs hH => ?_)
    refine lv_goto (tgt := 40) hx hb dX12_bet_13 (by decide) ?_
    exact x_iret hC hr hkL hH (by exact rfAk (cI_f c5) (by decide)) (congrArg (fun z_ : Nat → Int32 => WM G ad (ua σ 1 z_)) (by exact rfzk (cI_f c5) (by decide) : (rfz (σ 1) (betC (bK β) b w)) = (upd (σ 1) 1 ((σ 1) 1 + 1)))) dX12_bet_40
set_option maxHeartbeats 4000000 in
set_option maxRecDepth 100000 in
theorem k_X12_set (l : Launch) (G : GP) (ad : Nat → Nat) (σ : Nat → Nat → Int32) (b : Int32) (w : Int32) (v : Int32) (β : Bk) (hR : RB (σ 2) β) : CT l G yX12_set cX12_set 6 (some .int) 2 [.ref (ad 0), .int b, .int w, .int v] (WM G ad σ) (some (.int (rfA (setC (bK β) b w v) (nm β (b).toNatClampNeg (3 + (w).toNatClampNeg))))) (WM G ad (ua (ua σ 1 (rfz (σ 1) (setC (bK β) b w v))) 2 (ifz (setC (bK β) b w v) (upd (σ 2) (10 + (7 * (b).toNatClampNeg + (3 + (w).toNatClampNeg))) v) (σ 2)))) := by
  refine x_meth "BetsOnBetsModel" rfl (by decide +kernel) (by rfl) (Nat.le_of_ble_eq_true rfl) ?_
  intro pP eE sS mM args below meth cC A ls hC hr hkL hK hZ hA hH hl
  have hx := hC.1
  have hb := hC.2.1
  have hl : lv_has ls 6 [(0, .ref (ad 0)), (1, .int b), (2, .int w), (3, .int v)] := hl
  have hh4 := hR.2.2.1
  have hk6 := hR.2.2.2.1
  have pwh := pw4 hh4
  have pwk := pw6 hk6
  refine lv_aload_n hx hb dX12_set_0 rfl (lv_at hl 0 rfl) ?_
  refine lv_iload_n hx hb dX12_set_1 rfl (lv_at hl 1 rfl) ?_
  refine x_callVA (ws' := WM G ad σ) (As := [.int b]) (rest := []) (st' := [.int (bI (0 ≤ b ∧ b < nI (bK β)))]) hC hK hZ hA hl.1 hH (k_X12_isBet l G ad σ b β hR) lk_X12_93 rfl 0 11 rfl rfl rfl ⟨Nat.le_of_ble_eq_true rfl, Nat.le_of_ble_eq_true rfl⟩ ⟨Nat.le_refl _, Nat.le_refl _⟩ (Nat.le_of_ble_eq_true rfl) rfl dX12_set_2 (fun H locs hH => ?_)
  refine x_bne (tgt := 12) hC dX12_set_5 (by decide) (fun c5 => ?_) (fun c5 => ?_)
  · refine lv_iload_n hx hb dX12_set_12 rfl (lv_at hl 2 rfl) ?_
    refine lv_iconst (v := 2) hx hb dX12_set_13 (by decide) ?_
    refine x_callS (ws' := WM G ad σ) (As := [.int w, .int 2]) (rest := []) (st' := [.int (bI (0 ≤ w ∧ w < 2))]) hC hK hZ hA hl.1 hH (k_X12_isIn l G (pk ad []) (pk σ []) w 2) lk_X12_31 [] rfl rfl rfl rfl ⟨Nat.le_of_ble_eq_true rfl, Nat.le_of_ble_eq_true rfl⟩ ⟨Nat.le_refl _, Nat.le_refl _⟩ (Nat.le_of_ble_eq_true rfl) rfl dX12_set_14 (fun H locs hH => ?_)
    refine x_bne (tgt := 25) hC dX12_set_17 (by decide) (fun c17 => ?_) (fun c17 => ?_)
    · refine lv_iload_n hx hb dX12_set_25 rfl (lv_at hl 3 rfl) ?_
      refine x_meet1 (G := G) (A := A) (H0 := sS.heap) (nL := 6) (WM G ad σ) [(0, .ref (ad 0)), (1, .int b), (2, .int w), (3, .int v)] 35 [.int (if w = 0 then (1 : Int32) else 0), .int v] ?_ ?_
      · intro H locs ls hH hl
        refine x_meet1 (G := G) (A := A) (H0 := sS.heap) (nL := 6) (WM G ad σ) [(0, .ref (ad 0)), (1, .int b), (2, .int w), (3, .int v)] 46 [.int (if w = 0 then (99 : Int32) else 9), .int (if w = 0 then (1 : Int32) else 0), .int v] ?_ ?_
        · intro H locs ls hH hl
          refine x_callS (ws' := WM G ad σ) (As := [.int v, .int (if w = 0 then (1 : Int32) else 0), .int (if w = 0 then (99 : Int32) else 9)]) (rest := []) (st' := [.int (withinF v (if w = 0 then (1 : Int32) else 0) (if w = 0 then (99 : Int32) else 9))]) hC hK hZ hA hl.1 hH (k_X12_within l G (pk ad []) (pk σ []) v (if w = 0 then (1 : Int32) else 0) (if w = 0 then (99 : Int32) else 9)) lk_X12_39 [] rfl rfl rfl rfl ⟨Nat.le_of_ble_eq_true rfl, Nat.le_of_ble_eq_true rfl⟩ ⟨Nat.le_refl _, Nat.le_refl _⟩ (Nat.le_of_ble_eq_true rfl) rfl dX12_set_46 (fun H locs hH => ?_)
          rcases withinF_cases v (if w = 0 then (1 : Int32) else 0) (if w = 0 then (99 : Int32) else 9) with ⟨g1, g2⟩ | ⟨g1, g2, g3⟩ | ⟨g1, g2, g3⟩
          · refine x_topE (y := (-4)) g2 ?_
            refine lv_istore (lv' := [(4, .int (-4)), (0, .ref (ad 0)), (1, .int b), (2, .int w), (3, .int v)]) hx hb dX12_set_49 hl (by decide) rfl (fun ls hl => ?_)
            refine lv_iload hx hb dX12_set_51 (lv_at hl 0 rfl) ?_
            refine lv_if_eq (tgt := 63) hx hb dX12_set_53 (by decide) (fun c53 => ?_) (fun c53 => ?_)
            · exact absurd c53 (by decide)
            refine lv_aload_n hx hb dX12_set_56 rfl (lv_at hl 1 rfl) ?_
            refine lv_iload hx hb dX12_set_57 (lv_at hl 0 rfl) ?_
            refine x_callVA (ws' := WM G ad (ua σ 1 (upd (σ 1) 4 ((σ 1) 4 + 1)))) (As := [.int (-4)]) (rest := []) (st' := [.int (-4)]) hC hK hZ hA hl.1 hH (k_X12_refuse l G ad σ (-4) 4 rfl (by decide)) lk_X12_47 rfl 0 11 rfl rfl rfl ⟨Nat.le_of_ble_eq_true rfl, Nat.le_of_ble_eq_true rfl⟩ ⟨Nat.le_refl _, Nat.le_refl _⟩ (Nat.le_of_ble_eq_true rfl) rfl dX12_set_59 (fun H locs hH => ?_)
            exact x_iret hC hr hkL hH (by exact rfAk ((cI_t c5).trans ((cI_t c17).trans (wiC4 g1))) (by decide)) (((congrArg (fun z_ : Nat → Int32 => WM G ad (ua (ua σ 1 z_) 2 (ifz (setC (bK β) b w v) (upd (σ 2) (10 + (7 * (b).toNatClampNeg + (3 + (w).toNatClampNeg))) v) (σ 2)))) (by exact rfzk ((cI_t c5).trans ((cI_t c17).trans (wiC4 g1))) (by decide) : (rfz (σ 1) (setC (bK β) b w v)) = (upd (σ 1) 4 ((σ 1) 4 + 1)))).trans (congrArg (fun z_ : Nat → Int32 => WM G ad (ua (ua σ 1 (upd (σ 1) 4 ((σ 1) 4 + 1))) 2 z_)) (by exact ifzk ((cI_t c5).trans ((cI_t c17).trans (wiC4 g1))) (by decide) : (ifz (setC (bK β) b w v) (upd (σ 2) (10 + (7 * (b).toNatClampNeg + (3 + (w).toNatClampNeg))) v) (σ 2)) = (σ 2)))).trans (show WM G ad (ua (ua σ 1 (upd (σ 1) 4 ((σ 1) 4 + 1))) 2 (σ 2)) = WM G ad (ua σ 1 (upd (σ 1) 4 ((σ 1) 4 + 1))) from rfl)) dX12_set_62
          · refine x_topE (y := (-6)) g3 ?_
            refine lv_istore (lv' := [(4, .int (-6)), (0, .ref (ad 0)), (1, .int b), (2, .int w), (3, .int v)]) hx hb dX12_set_49 hl (by decide) rfl (fun ls hl => ?_)
            refine lv_iload hx hb dX12_set_51 (lv_at hl 0 rfl) ?_
            refine lv_if_eq (tgt := 63) hx hb dX12_set_53 (by decide) (fun c53 => ?_) (fun c53 => ?_)
            · exact absurd c53 (by decide)
            refine lv_aload_n hx hb dX12_set_56 rfl (lv_at hl 1 rfl) ?_
            refine lv_iload hx hb dX12_set_57 (lv_at hl 0 rfl) ?_
            refine x_callVA (ws' := WM G ad (ua σ 1 (upd (σ 1) 6 ((σ 1) 6 + 1)))) (As := [.int (-6)]) (rest := []) (st' := [.int (-6)]) hC hK hZ hA hl.1 hH (k_X12_refuse l G ad σ (-6) 6 rfl (by decide)) lk_X12_47 rfl 0 11 rfl rfl rfl ⟨Nat.le_of_ble_eq_true rfl, Nat.le_of_ble_eq_true rfl⟩ ⟨Nat.le_refl _, Nat.le_refl _⟩ (Nat.le_of_ble_eq_true rfl) rfl dX12_set_59 (fun H locs hH => ?_)
            exact x_iret hC hr hkL hH (by exact rfAk ((cI_t c5).trans ((cI_t c17).trans (wiC6 g1 g2))) (by decide)) (((congrArg (fun z_ : Nat → Int32 => WM G ad (ua (ua σ 1 z_) 2 (ifz (setC (bK β) b w v) (upd (σ 2) (10 + (7 * (b).toNatClampNeg + (3 + (w).toNatClampNeg))) v) (σ 2)))) (by exact rfzk ((cI_t c5).trans ((cI_t c17).trans (wiC6 g1 g2))) (by decide) : (rfz (σ 1) (setC (bK β) b w v)) = (upd (σ 1) 6 ((σ 1) 6 + 1)))).trans (congrArg (fun z_ : Nat → Int32 => WM G ad (ua (ua σ 1 (upd (σ 1) 6 ((σ 1) 6 + 1))) 2 z_)) (by exact ifzk ((cI_t c5).trans ((cI_t c17).trans (wiC6 g1 g2))) (by decide) : (ifz (setC (bK β) b w v) (upd (σ 2) (10 + (7 * (b).toNatClampNeg + (3 + (w).toNatClampNeg))) v) (σ 2)) = (σ 2)))).trans (show WM G ad (ua (ua σ 1 (upd (σ 1) 6 ((σ 1) 6 + 1))) 2 (σ 2)) = WM G ad (ua σ 1 (upd (σ 1) 6 ((σ 1) 6 + 1))) from rfl)) dX12_set_62
          · refine x_topE (y := 0) g3 ?_
            refine lv_istore (lv' := [(4, .int 0), (0, .ref (ad 0)), (1, .int b), (2, .int w), (3, .int v)]) hx hb dX12_set_49 hl (by decide) rfl (fun ls hl => ?_)
            refine lv_iload hx hb dX12_set_51 (lv_at hl 0 rfl) ?_
            refine lv_if_eq (tgt := 63) hx hb dX12_set_53 (by decide) (fun c53 => ?_) (fun c53 => ?_)
            rotate_left
            · exact absurd c53 (by decide)
            obtain ⟨bj_, hbj_, eb_⟩ := inb_of (by omega) c5
            obtain ⟨wj_, hwj_, ew_⟩ := inb_of (k := 2) (by omega) c17
            have nb_ : (b : Int32).toNatClampNeg = bj_ := by rw [eb_]; exact nI_clamp (by omega)
            have nw_ : (w : Int32).toNatClampNeg = wj_ := by rw [ew_]; exact nI_clamp (by omega)
            have z_ := ((cI_t c5).trans ((cI_t c17).trans (wiC0 g1 g2)) : setC (bK β) b w v = 0)
            refine lv_aload_n hx hb dX12_set_63 rfl (lv_at hl 1 rfl) ?_
            refine lv_iload_n hx hb dX12_set_64 rfl (lv_at hl 2 rfl) ?_
            refine lv_iconst (v := 3) hx hb dX12_set_65 (by decide) ?_
            refine lv_iload_n hx hb dX12_set_66 rfl (lv_at hl 3 rfl) ?_
            refine lv_iadd hx hb dX12_set_67 ?_
            refine x_callVA (ws' := WM G ad σ) (As := [.int b, .int (3 + w)]) (rest := []) (st' := [.int (nm β bj_ (3 + wj_))]) hC hK hZ hA hl.1 hH (k_X12_get l G ad σ b (3 + w) β bj_ (3 + wj_) hR eb_ (by rw [ew_, nIa]; rfl) (by omega) (by omega)) lk_X12_96 rfl 0 11 rfl rfl rfl ⟨Nat.le_of_ble_eq_true rfl, Nat.le_of_ble_eq_true rfl⟩ ⟨Nat.le_refl _, Nat.le_refl _⟩ (Nat.le_of_ble_eq_true rfl) rfl dX12_set_68 (fun H locs hH => ?_)
            refine lv_istore (lv' := [(5, .int (nm β bj_ (3 + wj_))), (4, .int 0), (0, .ref (ad 0)), (1, .int b), (2, .int w), (3, .int v)]) hx hb dX12_set_71 hl (by decide) rfl (fun ls hl => ?_)
            refine lv_aload_n hx hb dX12_set_73 rfl (lv_at hl 2 rfl) ?_
            refine gf_X12_13 (v := .ref (ad 2)) hC hK hH 0 rfl rfl dX12_set_74 ?_
            refine lv_bipush (v := 10) hx hb dX12_set_77 (by decide) ?_
            refine lv_bipush (v := 7) hx hb dX12_set_79 (by decide) ?_
            refine lv_iload_n hx hb dX12_set_81 rfl (lv_at hl 3 rfl) ?_
            refine lv_imul hx hb dX12_set_82 ?_
            refine lv_iadd hx hb dX12_set_83 ?_
            refine lv_iconst (v := 3) hx hb dX12_set_84 (by decide) ?_
            refine lv_iadd hx hb dX12_set_85 ?_
            refine lv_iload_n hx hb dX12_set_86 rfl (lv_at hl 4 rfl) ?_
            refine lv_iadd hx hb dX12_set_87 ?_
            refine lv_iload_n hx hb dX12_set_88 rfl (lv_at hl 5 rfl) ?_
            refine x_iasN (f := (σ 2)) (ws' := WM G ad (ua σ 2 (upd (σ 2) (10 + (7 * bj_ + (3 + wj_))) v))) hC hK hH 2 (10 + (7 * bj_ + (3 + wj_))) rfl (by rw [eb_, ew_, nIa, nIa, nIa, nIm]; simp only [Int32.add_assoc]; rfl) (by omega) (Nat.le_of_ble_eq_true rfl) dX12_set_89 rfl (fun H locs hH => ?_)
            refine lv_iload hx hb dX12_set_90 (lv_at hl 0 rfl) ?_
            exact x_iret hC hr hkL hH (by (refine (rfA0 z_).trans ?_); rw [nb_, nw_]) (((congrArg (fun z_ : Nat → Int32 => WM G ad (ua (ua σ 1 z_) 2 (ifz (setC (bK β) b w v) (upd (σ 2) (10 + (7 * (b).toNatClampNeg + (3 + (w).toNatClampNeg))) v) (σ 2)))) (by exact rfz0 z_ : (rfz (σ 1) (setC (bK β) b w v)) = (σ 1))).trans (congrArg (fun z_ : Nat → Int32 => WM G ad (ua (ua σ 1 (σ 1)) 2 z_)) (by first | ((refine (ifz0 z_).trans ?_); rw [nb_, nw_]) | rw [ifz0 z_] : (ifz (setC (bK β) b w v) (upd (σ 2) (10 + (7 * (b).toNatClampNeg + (3 + (w).toNatClampNeg))) v) (σ 2)) = (upd (σ 2) (10 + (7 * bj_ + (3 + wj_))) v)))).trans (show WM G ad (ua (ua σ 1 (σ 1)) 2 (upd (σ 2) (10 + (7 * bj_ + (3 + wj_))) v)) = WM G ad (ua σ 2 (upd (σ 2) (10 + (7 * bj_ + (3 + wj_))) v)) from rfl)) dX12_set_92
        · intro kJ35
          refine lv_iload_n hx hb dX12_set_35 rfl (lv_at hl 2 rfl) ?_
          refine lv_if_ne (tgt := 44) hx hb dX12_set_36 (by decide) (fun c36 => ?_) (fun c36 => ?_)
          · refine lv_bipush (v := 9) hx hb dX12_set_44 (by decide) ?_
            refine x_topE (y := (if w = 0 then (99 : Int32) else 9)) (by first | exact (if_pos c36).symm | exact (if_neg c36).symm) ?_
            exact kJ35 _ _ _ (hH.eq rfl) (lv_eq (lv_sub hl [0, 1, 2, 3] rfl) (lc_s (lc_s (lc_s (lc_s rfl)))))
          · refine lv_bipush (v := 99) hx hb dX12_set_39 (by decide) ?_
            refine lv_goto (tgt := 46) hx hb dX12_set_41 (by decide) ?_
            refine x_topE (y := (if w = 0 then (99 : Int32) else 9)) (by first | exact (if_pos c36).symm | exact (if_neg c36).symm) ?_
            exact kJ35 _ _ _ (hH.eq rfl) (lv_eq (lv_sub hl [0, 1, 2, 3] rfl) (lc_s (lc_s (lc_s (lc_s rfl)))))
      · intro kJ26
        refine lv_iload_n hx hb dX12_set_26 rfl (lv_at hl 2 rfl) ?_
        refine lv_if_ne (tgt := 34) hx hb dX12_set_27 (by decide) (fun c27 => ?_) (fun c27 => ?_)
        · refine lv_iconst (v := 0) hx hb dX12_set_34 (by decide) ?_
          refine x_topE (y := (if w = 0 then (1 : Int32) else 0)) (by first | exact (if_pos c27).symm | exact (if_neg c27).symm) ?_
          exact kJ26 _ _ _ (hH.eq rfl) (lv_eq (lv_sub hl [0, 1, 2, 3] rfl) (lc_s (lc_s (lc_s (lc_s rfl)))))
        · refine lv_iconst (v := 1) hx hb dX12_set_30 (by decide) ?_
          refine lv_goto (tgt := 35) hx hb dX12_set_31 (by decide) ?_
          refine x_topE (y := (if w = 0 then (1 : Int32) else 0)) (by first | exact (if_pos c27).symm | exact (if_neg c27).symm) ?_
          exact kJ26 _ _ _ (hH.eq rfl) (lv_eq (lv_sub hl [0, 1, 2, 3] rfl) (lc_s (lc_s (lc_s (lc_s rfl)))))
    · refine lv_bipush (v := (-2)) hx hb dX12_set_20 (by decide) ?_
      refine lv_goto (tgt := 49) hx hb dX12_set_22 (by decide) ?_
      refine lv_istore (lv' := [(4, .int (-2)), (0, .ref (ad 0)), (1, .int b), (2, .int w), (3, .int v)]) hx hb dX12_set_49 hl (by decide) rfl (fun ls hl => ?_)
      refine lv_iload hx hb dX12_set_51 (lv_at hl 0 rfl) ?_
      refine lv_if_eq (tgt := 63) hx hb dX12_set_53 (by decide) (fun c53 => ?_) (fun c53 => ?_)
      · exact absurd c53 (by decide)
      refine lv_aload_n hx hb dX12_set_56 rfl (lv_at hl 1 rfl) ?_
      refine lv_iload hx hb dX12_set_57 (lv_at hl 0 rfl) ?_
      refine x_callVA (ws' := WM G ad (ua σ 1 (upd (σ 1) 2 ((σ 1) 2 + 1)))) (As := [.int (-2)]) (rest := []) (st' := [.int (-2)]) hC hK hZ hA hl.1 hH (k_X12_refuse l G ad σ (-2) 2 rfl (by decide)) lk_X12_47 rfl 0 11 rfl rfl rfl ⟨Nat.le_of_ble_eq_true rfl, Nat.le_of_ble_eq_true rfl⟩ ⟨Nat.le_refl _, Nat.le_refl _⟩ (Nat.le_of_ble_eq_true rfl) rfl dX12_set_59 (fun H locs hH => ?_)
      exact x_iret hC hr hkL hH (by exact rfAk ((cI_t c5).trans (cI_f c17)) (by decide)) (((congrArg (fun z_ : Nat → Int32 => WM G ad (ua (ua σ 1 z_) 2 (ifz (setC (bK β) b w v) (upd (σ 2) (10 + (7 * (b).toNatClampNeg + (3 + (w).toNatClampNeg))) v) (σ 2)))) (by exact rfzk ((cI_t c5).trans (cI_f c17)) (by decide) : (rfz (σ 1) (setC (bK β) b w v)) = (upd (σ 1) 2 ((σ 1) 2 + 1)))).trans (congrArg (fun z_ : Nat → Int32 => WM G ad (ua (ua σ 1 (upd (σ 1) 2 ((σ 1) 2 + 1))) 2 z_)) (by exact ifzk ((cI_t c5).trans (cI_f c17)) (by decide) : (ifz (setC (bK β) b w v) (upd (σ 2) (10 + (7 * (b).toNatClampNeg + (3 + (w).toNatClampNeg))) v) (σ 2)) = (σ 2)))).trans (show WM G ad (ua (ua σ 1 (upd (σ 1) 2 ((σ 1) 2 + 1))) 2 (σ 2)) = WM G ad (ua σ 1 (upd (σ 1) 2 ((σ 1) 2 + 1))) from rfl)) dX12_set_62
  · refine lv_iconst (v := (-1)) hx hb dX12_set_8 (by decide) ?_
    refine lv_goto (tgt := 49) hx hb dX12_set_9 (by decide) ?_
    refine lv_istore (lv' := [(4, .int (-1)), (0, .ref (ad 0)), (1, .int b), (2, .int w), (3, .int v)]) hx hb dX12_set_49 hl (by decide) rfl (fun ls hl => ?_)
    refine lv_iload hx hb dX12_set_51 (lv_at hl 0 rfl) ?_
    refine lv_if_eq (tgt := 63) hx hb dX12_set_53 (by decide) (fun c53 => ?_) (fun c53 => ?_)
    · exact absurd c53 (by decide)
    refine lv_aload_n hx hb dX12_set_56 rfl (lv_at hl 1 rfl) ?_
    refine lv_iload hx hb dX12_set_57 (lv_at hl 0 rfl) ?_
    refine x_callVA (ws' := WM G ad (ua σ 1 (upd (σ 1) 1 ((σ 1) 1 + 1)))) (As := [.int (-1)]) (rest := []) (st' := [.int (-1)]) hC hK hZ hA hl.1 hH (k_X12_refuse l G ad σ (-1) 1 rfl (by decide)) lk_X12_47 rfl 0 11 rfl rfl rfl ⟨Nat.le_of_ble_eq_true rfl, Nat.le_of_ble_eq_true rfl⟩ ⟨Nat.le_refl _, Nat.le_refl _⟩ (Nat.le_of_ble_eq_true rfl) rfl dX12_set_59 (fun H locs hH => ?_)
    exact x_iret hC hr hkL hH (by exact rfAk (cI_f c5) (by decide)) (((congrArg (fun z_ : Nat → Int32 => WM G ad (ua (ua σ 1 z_) 2 (ifz (setC (bK β) b w v) (upd (σ 2) (10 + (7 * (b).toNatClampNeg + (3 + (w).toNatClampNeg))) v) (σ 2)))) (by exact rfzk (cI_f c5) (by decide) : (rfz (σ 1) (setC (bK β) b w v)) = (upd (σ 1) 1 ((σ 1) 1 + 1)))).trans (congrArg (fun z_ : Nat → Int32 => WM G ad (ua (ua σ 1 (upd (σ 1) 1 ((σ 1) 1 + 1))) 2 z_)) (by exact ifzk (cI_f c5) (by decide) : (ifz (setC (bK β) b w v) (upd (σ 2) (10 + (7 * (b).toNatClampNeg + (3 + (w).toNatClampNeg))) v) (σ 2)) = (σ 2)))).trans (show WM G ad (ua (ua σ 1 (upd (σ 1) 1 ((σ 1) 1 + 1))) 2 (σ 2)) = WM G ad (ua σ 1 (upd (σ 1) 1 ((σ 1) 1 + 1))) from rfl)) dX12_set_62
set_option maxHeartbeats 4000000 in
set_option maxRecDepth 100000 in
theorem k_X12_fund (l : Launch) (G : GP) (ad : Nat → Nat) (σ : Nat → Nat → Int32) (p : Int32) (v : Int32) (β : Bk) (hR : RB (σ 2) β) : CT l G yX12_fund cX12_fund 5 (some .int) 2 [.ref (ad 0), .int p, .int v] (WM G ad σ) (some (.int (rfA (fundC p v) (bF β (p).toNatClampNeg)))) (WM G ad (ua (ua σ 1 (rfz (σ 1) (fundC p v))) 2 (ifz (fundC p v) (upd (σ 2) (6 + (p).toNatClampNeg) v) (σ 2)))) := by
  refine x_meth "BetsOnBetsModel" rfl (by decide +kernel) (by rfl) (Nat.le_of_ble_eq_true rfl) ?_
  intro pP eE sS mM args below meth cC A ls hC hr hkL hK hZ hA hH hl
  have hx := hC.1
  have hb := hC.2.1
  have hl : lv_has ls 5 [(0, .ref (ad 0)), (1, .int p), (2, .int v)] := hl
  have hh4 := hR.2.2.1
  have hk6 := hR.2.2.2.1
  have pwh := pw4 hh4
  have pwk := pw6 hk6
  refine lv_iload_n hx hb dX12_fund_0 rfl (lv_at hl 1 rfl) ?_
  refine x_callS (ws' := WM G ad σ) (As := [.int p]) (rest := []) (st' := [.int (bI (0 ≤ p ∧ p < 4))]) hC hK hZ hA hl.1 hH (k_X12_isPerson l G (pk ad []) (pk σ []) p) lk_X12_77 [] rfl rfl rfl rfl ⟨Nat.le_of_ble_eq_true rfl, Nat.le_of_ble_eq_true rfl⟩ ⟨Nat.le_refl _, Nat.le_refl _⟩ (Nat.le_of_ble_eq_true rfl) rfl dX12_fund_1 (fun H locs hH => ?_)
  refine x_beq (tgt := 17) hC dX12_fund_4 (by decide) (fun c4 => ?_) (fun c4 => ?_)
  · refine lv_iconst (v := (-1)) hx hb dX12_fund_17 (by decide) ?_
    refine lv_istore_n (lv' := [(3, .int (-1)), (0, .ref (ad 0)), (1, .int p), (2, .int v)]) hx hb dX12_fund_18 rfl hl (by decide) rfl (fun ls hl => ?_)
    refine lv_iload_n hx hb dX12_fund_19 rfl (lv_at hl 0 rfl) ?_
    refine lv_if_eq (tgt := 29) hx hb dX12_fund_20 (by decide) (fun c20 => ?_) (fun c20 => ?_)
    · exact absurd c20 (by decide)
    refine lv_aload_n hx hb dX12_fund_23 rfl (lv_at hl 1 rfl) ?_
    refine lv_iload_n hx hb dX12_fund_24 rfl (lv_at hl 0 rfl) ?_
    refine x_callVA (ws' := WM G ad (ua σ 1 (upd (σ 1) 1 ((σ 1) 1 + 1)))) (As := [.int (-1)]) (rest := []) (st' := [.int (-1)]) hC hK hZ hA hl.1 hH (k_X12_refuse l G ad σ (-1) 1 rfl (by decide)) lk_X12_47 rfl 0 11 rfl rfl rfl ⟨Nat.le_of_ble_eq_true rfl, Nat.le_of_ble_eq_true rfl⟩ ⟨Nat.le_refl _, Nat.le_refl _⟩ (Nat.le_of_ble_eq_true rfl) rfl dX12_fund_25 (fun H locs hH => ?_)
    exact x_iret hC hr hkL hH (by exact rfAk (cI_f c4) (by decide)) (((congrArg (fun z_ : Nat → Int32 => WM G ad (ua (ua σ 1 z_) 2 (ifz (fundC p v) (upd (σ 2) (6 + (p).toNatClampNeg) v) (σ 2)))) (by exact rfzk (cI_f c4) (by decide) : (rfz (σ 1) (fundC p v)) = (upd (σ 1) 1 ((σ 1) 1 + 1)))).trans (congrArg (fun z_ : Nat → Int32 => WM G ad (ua (ua σ 1 (upd (σ 1) 1 ((σ 1) 1 + 1))) 2 z_)) (by exact ifzk (cI_f c4) (by decide) : (ifz (fundC p v) (upd (σ 2) (6 + (p).toNatClampNeg) v) (σ 2)) = (σ 2)))).trans (show WM G ad (ua (ua σ 1 (upd (σ 1) 1 ((σ 1) 1 + 1))) 2 (σ 2)) = WM G ad (ua σ 1 (upd (σ 1) 1 ((σ 1) 1 + 1))) from rfl)) dX12_fund_28
  · refine lv_iload_n hx hb dX12_fund_7 rfl (lv_at hl 2 rfl) ?_
    refine lv_iconst (v := 0) hx hb dX12_fund_8 (by decide) ?_
    refine lv_bipush (v := 99) hx hb dX12_fund_9 (by decide) ?_
    refine x_callS (ws' := WM G ad σ) (As := [.int v, .int 0, .int 99]) (rest := []) (st' := [.int (withinF v 0 99)]) hC hK hZ hA hl.1 hH (k_X12_within l G (pk ad []) (pk σ []) v 0 99) lk_X12_39 [] rfl rfl rfl rfl ⟨Nat.le_of_ble_eq_true rfl, Nat.le_of_ble_eq_true rfl⟩ ⟨Nat.le_refl _, Nat.le_refl _⟩ (Nat.le_of_ble_eq_true rfl) rfl dX12_fund_11 (fun H locs hH => ?_)
    rcases withinF_cases v 0 99 with ⟨g1, g2⟩ | ⟨g1, g2, g3⟩ | ⟨g1, g2, g3⟩
    · refine x_topE (y := (-4)) g2 ?_
      refine lv_goto (tgt := 18) hx hb dX12_fund_14 (by decide) ?_
      refine lv_istore_n (lv' := [(3, .int (-4)), (0, .ref (ad 0)), (1, .int p), (2, .int v)]) hx hb dX12_fund_18 rfl hl (by decide) rfl (fun ls hl => ?_)
      refine lv_iload_n hx hb dX12_fund_19 rfl (lv_at hl 0 rfl) ?_
      refine lv_if_eq (tgt := 29) hx hb dX12_fund_20 (by decide) (fun c20 => ?_) (fun c20 => ?_)
      · exact absurd c20 (by decide)
      refine lv_aload_n hx hb dX12_fund_23 rfl (lv_at hl 1 rfl) ?_
      refine lv_iload_n hx hb dX12_fund_24 rfl (lv_at hl 0 rfl) ?_
      refine x_callVA (ws' := WM G ad (ua σ 1 (upd (σ 1) 4 ((σ 1) 4 + 1)))) (As := [.int (-4)]) (rest := []) (st' := [.int (-4)]) hC hK hZ hA hl.1 hH (k_X12_refuse l G ad σ (-4) 4 rfl (by decide)) lk_X12_47 rfl 0 11 rfl rfl rfl ⟨Nat.le_of_ble_eq_true rfl, Nat.le_of_ble_eq_true rfl⟩ ⟨Nat.le_refl _, Nat.le_refl _⟩ (Nat.le_of_ble_eq_true rfl) rfl dX12_fund_25 (fun H locs hH => ?_)
      exact x_iret hC hr hkL hH (by exact rfAk ((cI_t c4).trans (wiC4 g1)) (by decide)) (((congrArg (fun z_ : Nat → Int32 => WM G ad (ua (ua σ 1 z_) 2 (ifz (fundC p v) (upd (σ 2) (6 + (p).toNatClampNeg) v) (σ 2)))) (by exact rfzk ((cI_t c4).trans (wiC4 g1)) (by decide) : (rfz (σ 1) (fundC p v)) = (upd (σ 1) 4 ((σ 1) 4 + 1)))).trans (congrArg (fun z_ : Nat → Int32 => WM G ad (ua (ua σ 1 (upd (σ 1) 4 ((σ 1) 4 + 1))) 2 z_)) (by exact ifzk ((cI_t c4).trans (wiC4 g1)) (by decide) : (ifz (fundC p v) (upd (σ 2) (6 + (p).toNatClampNeg) v) (σ 2)) = (σ 2)))).trans (show WM G ad (ua (ua σ 1 (upd (σ 1) 4 ((σ 1) 4 + 1))) 2 (σ 2)) = WM G ad (ua σ 1 (upd (σ 1) 4 ((σ 1) 4 + 1))) from rfl)) dX12_fund_28
    · refine x_topE (y := (-6)) g3 ?_
      refine lv_goto (tgt := 18) hx hb dX12_fund_14 (by decide) ?_
      refine lv_istore_n (lv' := [(3, .int (-6)), (0, .ref (ad 0)), (1, .int p), (2, .int v)]) hx hb dX12_fund_18 rfl hl (by decide) rfl (fun ls hl => ?_)
      refine lv_iload_n hx hb dX12_fund_19 rfl (lv_at hl 0 rfl) ?_
      refine lv_if_eq (tgt := 29) hx hb dX12_fund_20 (by decide) (fun c20 => ?_) (fun c20 => ?_)
      · exact absurd c20 (by decide)
      refine lv_aload_n hx hb dX12_fund_23 rfl (lv_at hl 1 rfl) ?_
      refine lv_iload_n hx hb dX12_fund_24 rfl (lv_at hl 0 rfl) ?_
      refine x_callVA (ws' := WM G ad (ua σ 1 (upd (σ 1) 6 ((σ 1) 6 + 1)))) (As := [.int (-6)]) (rest := []) (st' := [.int (-6)]) hC hK hZ hA hl.1 hH (k_X12_refuse l G ad σ (-6) 6 rfl (by decide)) lk_X12_47 rfl 0 11 rfl rfl rfl ⟨Nat.le_of_ble_eq_true rfl, Nat.le_of_ble_eq_true rfl⟩ ⟨Nat.le_refl _, Nat.le_refl _⟩ (Nat.le_of_ble_eq_true rfl) rfl dX12_fund_25 (fun H locs hH => ?_)
      exact x_iret hC hr hkL hH (by exact rfAk ((cI_t c4).trans (wiC6 g1 g2)) (by decide)) (((congrArg (fun z_ : Nat → Int32 => WM G ad (ua (ua σ 1 z_) 2 (ifz (fundC p v) (upd (σ 2) (6 + (p).toNatClampNeg) v) (σ 2)))) (by exact rfzk ((cI_t c4).trans (wiC6 g1 g2)) (by decide) : (rfz (σ 1) (fundC p v)) = (upd (σ 1) 6 ((σ 1) 6 + 1)))).trans (congrArg (fun z_ : Nat → Int32 => WM G ad (ua (ua σ 1 (upd (σ 1) 6 ((σ 1) 6 + 1))) 2 z_)) (by exact ifzk ((cI_t c4).trans (wiC6 g1 g2)) (by decide) : (ifz (fundC p v) (upd (σ 2) (6 + (p).toNatClampNeg) v) (σ 2)) = (σ 2)))).trans (show WM G ad (ua (ua σ 1 (upd (σ 1) 6 ((σ 1) 6 + 1))) 2 (σ 2)) = WM G ad (ua σ 1 (upd (σ 1) 6 ((σ 1) 6 + 1))) from rfl)) dX12_fund_28
    · refine x_topE (y := 0) g3 ?_
      refine lv_goto (tgt := 18) hx hb dX12_fund_14 (by decide) ?_
      refine lv_istore_n (lv' := [(3, .int 0), (0, .ref (ad 0)), (1, .int p), (2, .int v)]) hx hb dX12_fund_18 rfl hl (by decide) rfl (fun ls hl => ?_)
      refine lv_iload_n hx hb dX12_fund_19 rfl (lv_at hl 0 rfl) ?_
      refine lv_if_eq (tgt := 29) hx hb dX12_fund_20 (by decide) (fun c20 => ?_) (fun c20 => ?_)
      rotate_left
      · exact absurd c20 (by decide)
      obtain ⟨j_, hj_, ev_⟩ := inb_of (k := 4) (by omega) c4
      have nv_ : (p : Int32).toNatClampNeg = j_ := by rw [ev_]; exact nI_clamp (by omega)
      have z_ := ((cI_t c4).trans (wiC0 g1 g2) : fundC p v = 0)
      refine lv_aload_n hx hb dX12_fund_29 rfl (lv_at hl 1 rfl) ?_
      refine gf_X12_13 (v := .ref (ad 2)) hC hK hH 0 rfl rfl dX12_fund_30 ?_
      refine lv_bipush (v := 6) hx hb dX12_fund_33 (by decide) ?_
      refine lv_iload_n hx hb dX12_fund_35 rfl (lv_at hl 2 rfl) ?_
      refine lv_iadd hx hb dX12_fund_36 ?_
      refine x_ialN (f := (σ 2)) hC hK hH 2 (6 + j_) rfl (by rw [ev_, nIa]; rfl) (by omega) (Nat.le_of_ble_eq_true rfl) dX12_fund_37 ?_
      refine x_topE (y := (bF β j_)) (hR.2.2.2.2.2.1 _ (by omega)) ?_
      refine lv_istore (lv' := [(4, .int (bF β j_)), (3, .int 0), (0, .ref (ad 0)), (1, .int p), (2, .int v)]) hx hb dX12_fund_38 hl (by decide) rfl (fun ls hl => ?_)
      refine lv_aload_n hx hb dX12_fund_40 rfl (lv_at hl 2 rfl) ?_
      refine gf_X12_13 (v := .ref (ad 2)) hC hK hH 0 rfl rfl dX12_fund_41 ?_
      refine lv_bipush (v := 6) hx hb dX12_fund_44 (by decide) ?_
      refine lv_iload_n hx hb dX12_fund_46 rfl (lv_at hl 3 rfl) ?_
      refine lv_iadd hx hb dX12_fund_47 ?_
      refine lv_iload_n hx hb dX12_fund_48 rfl (lv_at hl 4 rfl) ?_
      refine x_iasN (f := (σ 2)) (ws' := WM G ad (ua σ 2 (upd (σ 2) (6 + j_) v))) hC hK hH 2 (6 + j_) rfl (by rw [ev_, nIa]; rfl) (by omega) (Nat.le_of_ble_eq_true rfl) dX12_fund_49 rfl (fun H locs hH => ?_)
      refine lv_iload hx hb dX12_fund_50 (lv_at hl 0 rfl) ?_
      exact x_iret hC hr hkL hH (by (refine (rfA0 z_).trans ?_); rw [nv_]) (((congrArg (fun z_ : Nat → Int32 => WM G ad (ua (ua σ 1 z_) 2 (ifz (fundC p v) (upd (σ 2) (6 + (p).toNatClampNeg) v) (σ 2)))) (by exact rfz0 z_ : (rfz (σ 1) (fundC p v)) = (σ 1))).trans (congrArg (fun z_ : Nat → Int32 => WM G ad (ua (ua σ 1 (σ 1)) 2 z_)) (by first | ((refine (ifz0 z_).trans ?_); rw [nv_]) | rw [ifz0 z_] : (ifz (fundC p v) (upd (σ 2) (6 + (p).toNatClampNeg) v) (σ 2)) = (upd (σ 2) (6 + j_) v)))).trans (show WM G ad (ua (ua σ 1 (σ 1)) 2 (upd (σ 2) (6 + j_) v)) = WM G ad (ua σ 2 (upd (σ 2) (6 + j_) v)) from rfl)) dX12_fund_52
set_option maxHeartbeats 4000000 in
set_option maxRecDepth 100000 in
theorem k_X12_letter (l : Launch) (G : GP) (ad : Nat → Nat) (σ : Nat → Nat → Int32) (v : Int32) (n : Nat) (hn : (σ 0 7) = nI n) (hn80 : n ≤ 80) : CT l G yX12_letter cX12_letter 3 (some .int) 1 [.ref (ad 0), .int v] (WM G ad σ) (some (.int (rfA (letC n v 255 80) (nI (n + 1))))) (WM G ad (ua (ua (ua σ 0 (upd (σ 0) 7 (nI (ifz (letC n v 255 80) (n + 1) n)))) 1 (rfz (σ 1) (letC n v 255 80))) 5 (ifz (letC n v 255 80) (upd (σ 5) n v) (σ 5)))) := by
  refine x_meth "BetsOnBetsModel" rfl (by decide +kernel) (by rfl) (Nat.le_of_ble_eq_true rfl) ?_
  intro pP eE sS mM args below meth cC A ls hC hr hkL hK hZ hA hH hl
  have hx := hC.1
  have hb := hC.2.1
  have hl : lv_has ls 3 [(0, .ref (ad 0)), (1, .int v)] := hl
  refine lv_iload_n hx hb dX12_letter_0 rfl (lv_at hl 1 rfl) ?_
  refine lv_iconst (v := 0) hx hb dX12_letter_1 (by decide) ?_
  refine lv_sipush (v := 255) hx hb dX12_letter_2 (by decide) ?_
  refine x_callS (ws' := WM G ad σ) (As := [.int v, .int 0, .int 255]) (rest := []) (st' := [.int (withinF v 0 255)]) hC hK hZ hA hl.1 hH (k_X12_within l G (pk ad []) (pk σ []) v 0 255) lk_X12_39 [] rfl rfl rfl rfl ⟨Nat.le_of_ble_eq_true rfl, Nat.le_of_ble_eq_true rfl⟩ ⟨Nat.le_refl _, Nat.le_refl _⟩ (Nat.le_of_ble_eq_true rfl) rfl dX12_letter_5 (fun H locs hH => ?_)
  rcases withinF_cases v 0 255 with ⟨g1, g2⟩ | ⟨g1, g2, g3⟩ | ⟨g1, g2, g3⟩
  · refine x_topE (y := (-4)) g2 ?_
    refine lv_istore_n (lv' := [(2, .int (-4)), (0, .ref (ad 0)), (1, .int v)]) hx hb dX12_letter_8 rfl hl (by decide) rfl (fun ls hl => ?_)
    refine lv_iload_n hx hb dX12_letter_9 rfl (lv_at hl 0 rfl) ?_
    refine lv_if_ne (tgt := 25) hx hb dX12_letter_10 (by decide) (fun c10 => ?_) (fun c10 => ?_)
    rotate_left
    · exact absurd c10 (by decide)
    refine lv_iload_n hx hb dX12_letter_25 rfl (lv_at hl 0 rfl) ?_
    refine lv_if_eq (tgt := 35) hx hb dX12_letter_26 (by decide) (fun c26 => ?_) (fun c26 => ?_)
    · exact absurd c26 (by decide)
    refine lv_aload_n hx hb dX12_letter_29 rfl (lv_at hl 1 rfl) ?_
    refine lv_iload_n hx hb dX12_letter_30 rfl (lv_at hl 0 rfl) ?_
    refine x_callVA (ws' := WM G ad (ua σ 1 (upd (σ 1) 4 ((σ 1) 4 + 1)))) (As := [.int (-4)]) (rest := []) (st' := [.int (-4)]) hC hK hZ hA hl.1 hH (k_X12_refuse l G ad σ (-4) 4 rfl (by decide)) lk_X12_47 rfl 0 11 rfl rfl rfl ⟨Nat.le_of_ble_eq_true rfl, Nat.le_of_ble_eq_true rfl⟩ ⟨Nat.le_refl _, Nat.le_refl _⟩ (Nat.le_of_ble_eq_true rfl) rfl dX12_letter_31 (fun H locs hH => ?_)
    exact x_iret hC hr hkL hH (by exact rfAk (letC4 g1) (by decide)) ((((congrArg (fun z_ : Nat → Int32 => WM G ad (ua (ua (ua σ 0 z_) 1 (rfz (σ 1) (letC n v 255 80))) 5 (ifz (letC n v 255 80) (upd (σ 5) n v) (σ 5)))) (by first | exact ifzk (letC4 g1) (by decide) | exact ifzk (letC6 g1 g2) (by decide) | exact ifzk (letCf g1 g2 f_) (by decide) | (rw [ifzk (letC4 g1) (by decide), ← hn]; exact upd_id rfl) | (rw [ifzk (letC6 g1 g2) (by decide), ← hn]; exact upd_id rfl) | (rw [ifzk (letCf g1 g2 f_) (by decide), ← hn]; exact upd_id rfl) : (upd (σ 0) 7 (nI (ifz (letC n v 255 80) (n + 1) n))) = (σ 0))).trans (congrArg (fun z_ : Nat → Int32 => WM G ad (ua (ua (ua σ 0 (σ 0)) 1 z_) 5 (ifz (letC n v 255 80) (upd (σ 5) n v) (σ 5)))) (by exact rfzk (letC4 g1) (by decide) : (rfz (σ 1) (letC n v 255 80)) = (upd (σ 1) 4 ((σ 1) 4 + 1))))).trans (congrArg (fun z_ : Nat → Int32 => WM G ad (ua (ua (ua σ 0 (σ 0)) 1 (upd (σ 1) 4 ((σ 1) 4 + 1))) 5 z_)) (by first | exact ifzk (letC4 g1) (by decide) | exact ifzk (letC6 g1 g2) (by decide) | exact ifzk (letCf g1 g2 f_) (by decide) | (rw [ifzk (letC4 g1) (by decide), ← hn]; exact upd_id rfl) | (rw [ifzk (letC6 g1 g2) (by decide), ← hn]; exact upd_id rfl) | (rw [ifzk (letCf g1 g2 f_) (by decide), ← hn]; exact upd_id rfl) : (ifz (letC n v 255 80) (upd (σ 5) n v) (σ 5)) = (σ 5)))).trans (show WM G ad (ua (ua (ua σ 0 (σ 0)) 1 (upd (σ 1) 4 ((σ 1) 4 + 1))) 5 (σ 5)) = WM G ad (ua σ 1 (upd (σ 1) 4 ((σ 1) 4 + 1))) from rfl)) dX12_letter_34
  · refine x_topE (y := (-6)) g3 ?_
    refine lv_istore_n (lv' := [(2, .int (-6)), (0, .ref (ad 0)), (1, .int v)]) hx hb dX12_letter_8 rfl hl (by decide) rfl (fun ls hl => ?_)
    refine lv_iload_n hx hb dX12_letter_9 rfl (lv_at hl 0 rfl) ?_
    refine lv_if_ne (tgt := 25) hx hb dX12_letter_10 (by decide) (fun c10 => ?_) (fun c10 => ?_)
    rotate_left
    · exact absurd c10 (by decide)
    refine lv_iload_n hx hb dX12_letter_25 rfl (lv_at hl 0 rfl) ?_
    refine lv_if_eq (tgt := 35) hx hb dX12_letter_26 (by decide) (fun c26 => ?_) (fun c26 => ?_)
    · exact absurd c26 (by decide)
    refine lv_aload_n hx hb dX12_letter_29 rfl (lv_at hl 1 rfl) ?_
    refine lv_iload_n hx hb dX12_letter_30 rfl (lv_at hl 0 rfl) ?_
    refine x_callVA (ws' := WM G ad (ua σ 1 (upd (σ 1) 6 ((σ 1) 6 + 1)))) (As := [.int (-6)]) (rest := []) (st' := [.int (-6)]) hC hK hZ hA hl.1 hH (k_X12_refuse l G ad σ (-6) 6 rfl (by decide)) lk_X12_47 rfl 0 11 rfl rfl rfl ⟨Nat.le_of_ble_eq_true rfl, Nat.le_of_ble_eq_true rfl⟩ ⟨Nat.le_refl _, Nat.le_refl _⟩ (Nat.le_of_ble_eq_true rfl) rfl dX12_letter_31 (fun H locs hH => ?_)
    exact x_iret hC hr hkL hH (by first | exact rfAk (letC6 g1 g2) (by decide) | exact rfAk (letCf g1 g2 f_) (by decide)) ((((congrArg (fun z_ : Nat → Int32 => WM G ad (ua (ua (ua σ 0 z_) 1 (rfz (σ 1) (letC n v 255 80))) 5 (ifz (letC n v 255 80) (upd (σ 5) n v) (σ 5)))) (by first | exact ifzk (letC4 g1) (by decide) | exact ifzk (letC6 g1 g2) (by decide) | exact ifzk (letCf g1 g2 f_) (by decide) | (rw [ifzk (letC4 g1) (by decide), ← hn]; exact upd_id rfl) | (rw [ifzk (letC6 g1 g2) (by decide), ← hn]; exact upd_id rfl) | (rw [ifzk (letCf g1 g2 f_) (by decide), ← hn]; exact upd_id rfl) : (upd (σ 0) 7 (nI (ifz (letC n v 255 80) (n + 1) n))) = (σ 0))).trans (congrArg (fun z_ : Nat → Int32 => WM G ad (ua (ua (ua σ 0 (σ 0)) 1 z_) 5 (ifz (letC n v 255 80) (upd (σ 5) n v) (σ 5)))) (by first | exact rfzk (letC6 g1 g2) (by decide) | exact rfzk (letCf g1 g2 f_) (by decide) : (rfz (σ 1) (letC n v 255 80)) = (upd (σ 1) 6 ((σ 1) 6 + 1))))).trans (congrArg (fun z_ : Nat → Int32 => WM G ad (ua (ua (ua σ 0 (σ 0)) 1 (upd (σ 1) 6 ((σ 1) 6 + 1))) 5 z_)) (by first | exact ifzk (letC4 g1) (by decide) | exact ifzk (letC6 g1 g2) (by decide) | exact ifzk (letCf g1 g2 f_) (by decide) | (rw [ifzk (letC4 g1) (by decide), ← hn]; exact upd_id rfl) | (rw [ifzk (letC6 g1 g2) (by decide), ← hn]; exact upd_id rfl) | (rw [ifzk (letCf g1 g2 f_) (by decide), ← hn]; exact upd_id rfl) : (ifz (letC n v 255 80) (upd (σ 5) n v) (σ 5)) = (σ 5)))).trans (show WM G ad (ua (ua (ua σ 0 (σ 0)) 1 (upd (σ 1) 6 ((σ 1) 6 + 1))) 5 (σ 5)) = WM G ad (ua σ 1 (upd (σ 1) 6 ((σ 1) 6 + 1))) from rfl)) dX12_letter_34
  · refine x_topE (y := 0) g3 ?_
    refine lv_istore_n (lv' := [(2, .int 0), (0, .ref (ad 0)), (1, .int v)]) hx hb dX12_letter_8 rfl hl (by decide) rfl (fun ls hl => ?_)
    refine lv_iload_n hx hb dX12_letter_9 rfl (lv_at hl 0 rfl) ?_
    refine lv_if_ne (tgt := 25) hx hb dX12_letter_10 (by decide) (fun c10 => ?_) (fun c10 => ?_)
    · exact absurd c10 (by decide)
    refine lv_aload_n hx hb dX12_letter_13 rfl (lv_at hl 1 rfl) ?_
    refine gf_X12_43 (v := .int (σ 0 7)) hC hK hH 0 rfl rfl dX12_letter_14 ?_
    refine x_topE (y := (nI n)) hn ?_
    refine lv_bipush (v := 80) hx hb dX12_letter_17 (by decide) ?_
    refine lv_icmp_ne (tgt := 25) hx hb dX12_letter_19 (by decide) (fun c19 => ?_) (fun c19 => ?_)
    · refine lv_iload_n hx hb dX12_letter_25 rfl (lv_at hl 0 rfl) ?_
      refine lv_if_eq (tgt := 35) hx hb dX12_letter_26 (by decide) (fun c26 => ?_) (fun c26 => ?_)
      rotate_left
      · exact absurd c26 (by decide)
      refine lv_aload_n hx hb dX12_letter_35 rfl (lv_at hl 1 rfl) ?_
      have f_ : ¬ n = 80 := fun z => c19 (by rw [z]; rfl)
      have hn2_ : n < 80 := by omega
      refine gf_X12_22 (v := .ref (ad 5)) hC hK hH 0 rfl rfl dX12_letter_36 ?_
      refine lv_aload_n hx hb dX12_letter_39 rfl (lv_at hl 1 rfl) ?_
      refine gf_X12_43 (v := .int (σ 0 7)) hC hK hH 0 rfl rfl dX12_letter_40 ?_
      refine x_topE (y := (nI n)) hn ?_
      refine lv_iload_n hx hb dX12_letter_43 rfl (lv_at hl 2 rfl) ?_
      refine x_iasN (f := (σ 5)) (ws' := WM G ad (ua σ 5 (upd (σ 5) n v))) hC hK hH 5 n rfl rfl hn2_ (Nat.le_of_ble_eq_true rfl) dX12_letter_44 rfl (fun H locs hH => ?_)
      refine lv_aload_n hx hb dX12_letter_45 rfl (lv_at hl 1 rfl) ?_
      refine lv_dup hx hb dX12_letter_46 rfl ?_
      refine gf_X12_43 (v := .int (σ 0 7)) hC hK hH 0 rfl rfl dX12_letter_47 ?_
      refine x_topE (y := (nI n)) hn ?_
      refine lv_iconst (v := 1) hx hb dX12_letter_50 (by decide) ?_
      refine lv_iadd hx hb dX12_letter_51 ?_
      refine x_topE (y := (nI (n + 1))) (nI_1 _) ?_
      refine pf_X12_43 (ws' := WM G ad (ua (ua σ 0 (upd (σ 0) 7 (nI (n + 1)))) 5 (upd (σ 5) n v))) hC hK hH 0 rfl rfl rfl (Nat.le_of_ble_eq_true rfl) dX12_letter_52 rfl (fun H locs hH => ?_)
      refine lv_aload_n hx hb dX12_letter_55 rfl (lv_at hl 1 rfl) ?_
      refine gf_X12_43 (v := .int (nI (n + 1))) hC hK hH 0 rfl rfl dX12_letter_56 ?_
      exact x_iret hC hr hkL hH (by (refine (rfA0 (letC0 g1 g2 f_)).trans ?_); rfl) ((((congrArg (fun z_ : Nat → Int32 => WM G ad (ua (ua (ua σ 0 z_) 1 (rfz (σ 1) (letC n v 255 80))) 5 (ifz (letC n v 255 80) (upd (σ 5) n v) (σ 5)))) (by first | ((refine (ifz0 (letC0 g1 g2 f_)).trans ?_); rfl) | rw [ifz0 (letC0 g1 g2 f_)] : (upd (σ 0) 7 (nI (ifz (letC n v 255 80) (n + 1) n))) = (upd (σ 0) 7 (nI (n + 1))))).trans (congrArg (fun z_ : Nat → Int32 => WM G ad (ua (ua (ua σ 0 (upd (σ 0) 7 (nI (n + 1)))) 1 z_) 5 (ifz (letC n v 255 80) (upd (σ 5) n v) (σ 5)))) (by exact rfz0 (letC0 g1 g2 f_) : (rfz (σ 1) (letC n v 255 80)) = (σ 1)))).trans (congrArg (fun z_ : Nat → Int32 => WM G ad (ua (ua (ua σ 0 (upd (σ 0) 7 (nI (n + 1)))) 1 (σ 1)) 5 z_)) (by first | ((refine (ifz0 (letC0 g1 g2 f_)).trans ?_); rfl) | rw [ifz0 (letC0 g1 g2 f_)] : (ifz (letC n v 255 80) (upd (σ 5) n v) (σ 5)) = (upd (σ 5) n v)))).trans (show WM G ad (ua (ua (ua σ 0 (upd (σ 0) 7 (nI (n + 1)))) 1 (σ 1)) 5 (upd (σ 5) n v)) = WM G ad (ua (ua σ 0 (upd (σ 0) 7 (nI (n + 1)))) 5 (upd (σ 5) n v)) from rfl)) dX12_letter_59
    · have f_ : n = 80 := (nI_eq (by omega) (by omega)).mp c19
      refine lv_bipush (v := (-6)) hx hb dX12_letter_22 (by decide) ?_
      refine lv_istore_n (lv' := [(2, .int (-6)), (0, .ref (ad 0)), (1, .int v)]) hx hb dX12_letter_24 rfl hl (by decide) rfl (fun ls hl => ?_)
      refine lv_iload_n hx hb dX12_letter_25 rfl (lv_at hl 0 rfl) ?_
      refine lv_if_eq (tgt := 35) hx hb dX12_letter_26 (by decide) (fun c26 => ?_) (fun c26 => ?_)
      · exact absurd c26 (by decide)
      refine lv_aload_n hx hb dX12_letter_29 rfl (lv_at hl 1 rfl) ?_
      refine lv_iload_n hx hb dX12_letter_30 rfl (lv_at hl 0 rfl) ?_
      refine x_callVA (ws' := WM G ad (ua σ 1 (upd (σ 1) 6 ((σ 1) 6 + 1)))) (As := [.int (-6)]) (rest := []) (st' := [.int (-6)]) hC hK hZ hA hl.1 hH (k_X12_refuse l G ad σ (-6) 6 rfl (by decide)) lk_X12_47 rfl 0 11 rfl rfl rfl ⟨Nat.le_of_ble_eq_true rfl, Nat.le_of_ble_eq_true rfl⟩ ⟨Nat.le_refl _, Nat.le_refl _⟩ (Nat.le_of_ble_eq_true rfl) rfl dX12_letter_31 (fun H locs hH => ?_)
      exact x_iret hC hr hkL hH (by first | exact rfAk (letC6 g1 g2) (by decide) | exact rfAk (letCf g1 g2 f_) (by decide)) ((((congrArg (fun z_ : Nat → Int32 => WM G ad (ua (ua (ua σ 0 z_) 1 (rfz (σ 1) (letC n v 255 80))) 5 (ifz (letC n v 255 80) (upd (σ 5) n v) (σ 5)))) (by first | exact ifzk (letC4 g1) (by decide) | exact ifzk (letC6 g1 g2) (by decide) | exact ifzk (letCf g1 g2 f_) (by decide) | (rw [ifzk (letC4 g1) (by decide), ← hn]; exact upd_id rfl) | (rw [ifzk (letC6 g1 g2) (by decide), ← hn]; exact upd_id rfl) | (rw [ifzk (letCf g1 g2 f_) (by decide), ← hn]; exact upd_id rfl) : (upd (σ 0) 7 (nI (ifz (letC n v 255 80) (n + 1) n))) = (σ 0))).trans (congrArg (fun z_ : Nat → Int32 => WM G ad (ua (ua (ua σ 0 (σ 0)) 1 z_) 5 (ifz (letC n v 255 80) (upd (σ 5) n v) (σ 5)))) (by first | exact rfzk (letC6 g1 g2) (by decide) | exact rfzk (letCf g1 g2 f_) (by decide) : (rfz (σ 1) (letC n v 255 80)) = (upd (σ 1) 6 ((σ 1) 6 + 1))))).trans (congrArg (fun z_ : Nat → Int32 => WM G ad (ua (ua (ua σ 0 (σ 0)) 1 (upd (σ 1) 6 ((σ 1) 6 + 1))) 5 z_)) (by first | exact ifzk (letC4 g1) (by decide) | exact ifzk (letC6 g1 g2) (by decide) | exact ifzk (letCf g1 g2 f_) (by decide) | (rw [ifzk (letC4 g1) (by decide), ← hn]; exact upd_id rfl) | (rw [ifzk (letC6 g1 g2) (by decide), ← hn]; exact upd_id rfl) | (rw [ifzk (letCf g1 g2 f_) (by decide), ← hn]; exact upd_id rfl) : (ifz (letC n v 255 80) (upd (σ 5) n v) (σ 5)) = (σ 5)))).trans (show WM G ad (ua (ua (ua σ 0 (σ 0)) 1 (upd (σ 1) 6 ((σ 1) 6 + 1))) 5 (σ 5)) = WM G ad (ua σ 1 (upd (σ 1) 6 ((σ 1) 6 + 1))) from rfl)) dX12_letter_34
set_option maxHeartbeats 4000000 in
set_option maxRecDepth 100000 in
theorem k_X12_row (l : Launch) (G : GP) (ad : Nat → Nat) (σ : Nat → Nat → Int32) (v : Int32) (n : Nat) (hn : (σ 0 14) = nI n) (hn4 : n ≤ 4) : CT l G yX12_row cX12_row 3 (some .int) 1 [.ref (ad 0), .int v] (WM G ad σ) (some (.int (rfA (letC n v 999 4) (nI (n + 1))))) (WM G ad (ua (ua (ua σ 0 (upd (σ 0) 14 (nI (ifz (letC n v 999 4) (n + 1) n)))) 1 (rfz (σ 1) (letC n v 999 4))) 7 (ifz (letC n v 999 4) (upd (σ 7) n v) (σ 7)))) := by
  refine x_meth "BetsOnBetsModel" rfl (by decide +kernel) (by rfl) (Nat.le_of_ble_eq_true rfl) ?_
  intro pP eE sS mM args below meth cC A ls hC hr hkL hK hZ hA hH hl
  have hx := hC.1
  have hb := hC.2.1
  have hl : lv_has ls 3 [(0, .ref (ad 0)), (1, .int v)] := hl
  refine lv_iload_n hx hb dX12_row_0 rfl (lv_at hl 1 rfl) ?_
  refine lv_iconst (v := 0) hx hb dX12_row_1 (by decide) ?_
  refine lv_sipush (v := 999) hx hb dX12_row_2 (by decide) ?_
  refine x_callS (ws' := WM G ad σ) (As := [.int v, .int 0, .int 999]) (rest := []) (st' := [.int (withinF v 0 999)]) hC hK hZ hA hl.1 hH (k_X12_within l G (pk ad []) (pk σ []) v 0 999) lk_X12_39 [] rfl rfl rfl rfl ⟨Nat.le_of_ble_eq_true rfl, Nat.le_of_ble_eq_true rfl⟩ ⟨Nat.le_refl _, Nat.le_refl _⟩ (Nat.le_of_ble_eq_true rfl) rfl dX12_row_5 (fun H locs hH => ?_)
  rcases withinF_cases v 0 999 with ⟨g1, g2⟩ | ⟨g1, g2, g3⟩ | ⟨g1, g2, g3⟩
  · refine x_topE (y := (-4)) g2 ?_
    refine lv_istore_n (lv' := [(2, .int (-4)), (0, .ref (ad 0)), (1, .int v)]) hx hb dX12_row_8 rfl hl (by decide) rfl (fun ls hl => ?_)
    refine lv_iload_n hx hb dX12_row_9 rfl (lv_at hl 0 rfl) ?_
    refine lv_if_ne (tgt := 24) hx hb dX12_row_10 (by decide) (fun c10 => ?_) (fun c10 => ?_)
    rotate_left
    · exact absurd c10 (by decide)
    refine lv_iload_n hx hb dX12_row_24 rfl (lv_at hl 0 rfl) ?_
    refine lv_if_eq (tgt := 34) hx hb dX12_row_25 (by decide) (fun c25 => ?_) (fun c25 => ?_)
    · exact absurd c25 (by decide)
    refine lv_aload_n hx hb dX12_row_28 rfl (lv_at hl 1 rfl) ?_
    refine lv_iload_n hx hb dX12_row_29 rfl (lv_at hl 0 rfl) ?_
    refine x_callVA (ws' := WM G ad (ua σ 1 (upd (σ 1) 4 ((σ 1) 4 + 1)))) (As := [.int (-4)]) (rest := []) (st' := [.int (-4)]) hC hK hZ hA hl.1 hH (k_X12_refuse l G ad σ (-4) 4 rfl (by decide)) lk_X12_47 rfl 0 11 rfl rfl rfl ⟨Nat.le_of_ble_eq_true rfl, Nat.le_of_ble_eq_true rfl⟩ ⟨Nat.le_refl _, Nat.le_refl _⟩ (Nat.le_of_ble_eq_true rfl) rfl dX12_row_30 (fun H locs hH => ?_)
    exact x_iret hC hr hkL hH (by exact rfAk (letC4 g1) (by decide)) ((((congrArg (fun z_ : Nat → Int32 => WM G ad (ua (ua (ua σ 0 z_) 1 (rfz (σ 1) (letC n v 999 4))) 7 (ifz (letC n v 999 4) (upd (σ 7) n v) (σ 7)))) (by first | exact ifzk (letC4 g1) (by decide) | exact ifzk (letC6 g1 g2) (by decide) | exact ifzk (letCf g1 g2 f_) (by decide) | (rw [ifzk (letC4 g1) (by decide), ← hn]; exact upd_id rfl) | (rw [ifzk (letC6 g1 g2) (by decide), ← hn]; exact upd_id rfl) | (rw [ifzk (letCf g1 g2 f_) (by decide), ← hn]; exact upd_id rfl) : (upd (σ 0) 14 (nI (ifz (letC n v 999 4) (n + 1) n))) = (σ 0))).trans (congrArg (fun z_ : Nat → Int32 => WM G ad (ua (ua (ua σ 0 (σ 0)) 1 z_) 7 (ifz (letC n v 999 4) (upd (σ 7) n v) (σ 7)))) (by exact rfzk (letC4 g1) (by decide) : (rfz (σ 1) (letC n v 999 4)) = (upd (σ 1) 4 ((σ 1) 4 + 1))))).trans (congrArg (fun z_ : Nat → Int32 => WM G ad (ua (ua (ua σ 0 (σ 0)) 1 (upd (σ 1) 4 ((σ 1) 4 + 1))) 7 z_)) (by first | exact ifzk (letC4 g1) (by decide) | exact ifzk (letC6 g1 g2) (by decide) | exact ifzk (letCf g1 g2 f_) (by decide) | (rw [ifzk (letC4 g1) (by decide), ← hn]; exact upd_id rfl) | (rw [ifzk (letC6 g1 g2) (by decide), ← hn]; exact upd_id rfl) | (rw [ifzk (letCf g1 g2 f_) (by decide), ← hn]; exact upd_id rfl) : (ifz (letC n v 999 4) (upd (σ 7) n v) (σ 7)) = (σ 7)))).trans (show WM G ad (ua (ua (ua σ 0 (σ 0)) 1 (upd (σ 1) 4 ((σ 1) 4 + 1))) 7 (σ 7)) = WM G ad (ua σ 1 (upd (σ 1) 4 ((σ 1) 4 + 1))) from rfl)) dX12_row_33
  · refine x_topE (y := (-6)) g3 ?_
    refine lv_istore_n (lv' := [(2, .int (-6)), (0, .ref (ad 0)), (1, .int v)]) hx hb dX12_row_8 rfl hl (by decide) rfl (fun ls hl => ?_)
    refine lv_iload_n hx hb dX12_row_9 rfl (lv_at hl 0 rfl) ?_
    refine lv_if_ne (tgt := 24) hx hb dX12_row_10 (by decide) (fun c10 => ?_) (fun c10 => ?_)
    rotate_left
    · exact absurd c10 (by decide)
    refine lv_iload_n hx hb dX12_row_24 rfl (lv_at hl 0 rfl) ?_
    refine lv_if_eq (tgt := 34) hx hb dX12_row_25 (by decide) (fun c25 => ?_) (fun c25 => ?_)
    · exact absurd c25 (by decide)
    refine lv_aload_n hx hb dX12_row_28 rfl (lv_at hl 1 rfl) ?_
    refine lv_iload_n hx hb dX12_row_29 rfl (lv_at hl 0 rfl) ?_
    refine x_callVA (ws' := WM G ad (ua σ 1 (upd (σ 1) 6 ((σ 1) 6 + 1)))) (As := [.int (-6)]) (rest := []) (st' := [.int (-6)]) hC hK hZ hA hl.1 hH (k_X12_refuse l G ad σ (-6) 6 rfl (by decide)) lk_X12_47 rfl 0 11 rfl rfl rfl ⟨Nat.le_of_ble_eq_true rfl, Nat.le_of_ble_eq_true rfl⟩ ⟨Nat.le_refl _, Nat.le_refl _⟩ (Nat.le_of_ble_eq_true rfl) rfl dX12_row_30 (fun H locs hH => ?_)
    exact x_iret hC hr hkL hH (by first | exact rfAk (letC6 g1 g2) (by decide) | exact rfAk (letCf g1 g2 f_) (by decide)) ((((congrArg (fun z_ : Nat → Int32 => WM G ad (ua (ua (ua σ 0 z_) 1 (rfz (σ 1) (letC n v 999 4))) 7 (ifz (letC n v 999 4) (upd (σ 7) n v) (σ 7)))) (by first | exact ifzk (letC4 g1) (by decide) | exact ifzk (letC6 g1 g2) (by decide) | exact ifzk (letCf g1 g2 f_) (by decide) | (rw [ifzk (letC4 g1) (by decide), ← hn]; exact upd_id rfl) | (rw [ifzk (letC6 g1 g2) (by decide), ← hn]; exact upd_id rfl) | (rw [ifzk (letCf g1 g2 f_) (by decide), ← hn]; exact upd_id rfl) : (upd (σ 0) 14 (nI (ifz (letC n v 999 4) (n + 1) n))) = (σ 0))).trans (congrArg (fun z_ : Nat → Int32 => WM G ad (ua (ua (ua σ 0 (σ 0)) 1 z_) 7 (ifz (letC n v 999 4) (upd (σ 7) n v) (σ 7)))) (by first | exact rfzk (letC6 g1 g2) (by decide) | exact rfzk (letCf g1 g2 f_) (by decide) : (rfz (σ 1) (letC n v 999 4)) = (upd (σ 1) 6 ((σ 1) 6 + 1))))).trans (congrArg (fun z_ : Nat → Int32 => WM G ad (ua (ua (ua σ 0 (σ 0)) 1 (upd (σ 1) 6 ((σ 1) 6 + 1))) 7 z_)) (by first | exact ifzk (letC4 g1) (by decide) | exact ifzk (letC6 g1 g2) (by decide) | exact ifzk (letCf g1 g2 f_) (by decide) | (rw [ifzk (letC4 g1) (by decide), ← hn]; exact upd_id rfl) | (rw [ifzk (letC6 g1 g2) (by decide), ← hn]; exact upd_id rfl) | (rw [ifzk (letCf g1 g2 f_) (by decide), ← hn]; exact upd_id rfl) : (ifz (letC n v 999 4) (upd (σ 7) n v) (σ 7)) = (σ 7)))).trans (show WM G ad (ua (ua (ua σ 0 (σ 0)) 1 (upd (σ 1) 6 ((σ 1) 6 + 1))) 7 (σ 7)) = WM G ad (ua σ 1 (upd (σ 1) 6 ((σ 1) 6 + 1))) from rfl)) dX12_row_33
  · refine x_topE (y := 0) g3 ?_
    refine lv_istore_n (lv' := [(2, .int 0), (0, .ref (ad 0)), (1, .int v)]) hx hb dX12_row_8 rfl hl (by decide) rfl (fun ls hl => ?_)
    refine lv_iload_n hx hb dX12_row_9 rfl (lv_at hl 0 rfl) ?_
    refine lv_if_ne (tgt := 24) hx hb dX12_row_10 (by decide) (fun c10 => ?_) (fun c10 => ?_)
    · exact absurd c10 (by decide)
    refine lv_aload_n hx hb dX12_row_13 rfl (lv_at hl 1 rfl) ?_
    refine gf_X12_170 (v := .int (σ 0 14)) hC hK hH 0 rfl rfl dX12_row_14 ?_
    refine x_topE (y := (nI n)) hn ?_
    refine lv_iconst (v := 4) hx hb dX12_row_17 (by decide) ?_
    refine lv_icmp_ne (tgt := 24) hx hb dX12_row_18 (by decide) (fun c18 => ?_) (fun c18 => ?_)
    · refine lv_iload_n hx hb dX12_row_24 rfl (lv_at hl 0 rfl) ?_
      refine lv_if_eq (tgt := 34) hx hb dX12_row_25 (by decide) (fun c25 => ?_) (fun c25 => ?_)
      rotate_left
      · exact absurd c25 (by decide)
      refine lv_aload_n hx hb dX12_row_34 rfl (lv_at hl 1 rfl) ?_
      have f_ : ¬ n = 4 := fun z => c18 (by rw [z]; rfl)
      have hn2_ : n < 4 := by omega
      refine gf_X12_28 (v := .ref (ad 7)) hC hK hH 0 rfl rfl dX12_row_35 ?_
      refine lv_aload_n hx hb dX12_row_38 rfl (lv_at hl 1 rfl) ?_
      refine gf_X12_170 (v := .int (σ 0 14)) hC hK hH 0 rfl rfl dX12_row_39 ?_
      refine x_topE (y := (nI n)) hn ?_
      refine lv_iload_n hx hb dX12_row_42 rfl (lv_at hl 2 rfl) ?_
      refine x_iasN (f := (σ 7)) (ws' := WM G ad (ua σ 7 (upd (σ 7) n v))) hC hK hH 7 n rfl rfl hn2_ (Nat.le_of_ble_eq_true rfl) dX12_row_43 rfl (fun H locs hH => ?_)
      refine lv_aload_n hx hb dX12_row_44 rfl (lv_at hl 1 rfl) ?_
      refine lv_dup hx hb dX12_row_45 rfl ?_
      refine gf_X12_170 (v := .int (σ 0 14)) hC hK hH 0 rfl rfl dX12_row_46 ?_
      refine x_topE (y := (nI n)) hn ?_
      refine lv_iconst (v := 1) hx hb dX12_row_49 (by decide) ?_
      refine lv_iadd hx hb dX12_row_50 ?_
      refine x_topE (y := (nI (n + 1))) (nI_1 _) ?_
      refine pf_X12_170 (ws' := WM G ad (ua (ua σ 0 (upd (σ 0) 14 (nI (n + 1)))) 7 (upd (σ 7) n v))) hC hK hH 0 rfl rfl rfl (Nat.le_of_ble_eq_true rfl) dX12_row_51 rfl (fun H locs hH => ?_)
      refine lv_aload_n hx hb dX12_row_54 rfl (lv_at hl 1 rfl) ?_
      refine gf_X12_170 (v := .int (nI (n + 1))) hC hK hH 0 rfl rfl dX12_row_55 ?_
      exact x_iret hC hr hkL hH (by (refine (rfA0 (letC0 g1 g2 f_)).trans ?_); rfl) ((((congrArg (fun z_ : Nat → Int32 => WM G ad (ua (ua (ua σ 0 z_) 1 (rfz (σ 1) (letC n v 999 4))) 7 (ifz (letC n v 999 4) (upd (σ 7) n v) (σ 7)))) (by first | ((refine (ifz0 (letC0 g1 g2 f_)).trans ?_); rfl) | rw [ifz0 (letC0 g1 g2 f_)] : (upd (σ 0) 14 (nI (ifz (letC n v 999 4) (n + 1) n))) = (upd (σ 0) 14 (nI (n + 1))))).trans (congrArg (fun z_ : Nat → Int32 => WM G ad (ua (ua (ua σ 0 (upd (σ 0) 14 (nI (n + 1)))) 1 z_) 7 (ifz (letC n v 999 4) (upd (σ 7) n v) (σ 7)))) (by exact rfz0 (letC0 g1 g2 f_) : (rfz (σ 1) (letC n v 999 4)) = (σ 1)))).trans (congrArg (fun z_ : Nat → Int32 => WM G ad (ua (ua (ua σ 0 (upd (σ 0) 14 (nI (n + 1)))) 1 (σ 1)) 7 z_)) (by first | ((refine (ifz0 (letC0 g1 g2 f_)).trans ?_); rfl) | rw [ifz0 (letC0 g1 g2 f_)] : (ifz (letC n v 999 4) (upd (σ 7) n v) (σ 7)) = (upd (σ 7) n v)))).trans (show WM G ad (ua (ua (ua σ 0 (upd (σ 0) 14 (nI (n + 1)))) 1 (σ 1)) 7 (upd (σ 7) n v)) = WM G ad (ua (ua σ 0 (upd (σ 0) 14 (nI (n + 1)))) 7 (upd (σ 7) n v)) from rfl)) dX12_row_58
    · have f_ : n = 4 := (nI_eq (by omega) (by omega)).mp c18
      refine lv_bipush (v := (-6)) hx hb dX12_row_21 (by decide) ?_
      refine lv_istore_n (lv' := [(2, .int (-6)), (0, .ref (ad 0)), (1, .int v)]) hx hb dX12_row_23 rfl hl (by decide) rfl (fun ls hl => ?_)
      refine lv_iload_n hx hb dX12_row_24 rfl (lv_at hl 0 rfl) ?_
      refine lv_if_eq (tgt := 34) hx hb dX12_row_25 (by decide) (fun c25 => ?_) (fun c25 => ?_)
      · exact absurd c25 (by decide)
      refine lv_aload_n hx hb dX12_row_28 rfl (lv_at hl 1 rfl) ?_
      refine lv_iload_n hx hb dX12_row_29 rfl (lv_at hl 0 rfl) ?_
      refine x_callVA (ws' := WM G ad (ua σ 1 (upd (σ 1) 6 ((σ 1) 6 + 1)))) (As := [.int (-6)]) (rest := []) (st' := [.int (-6)]) hC hK hZ hA hl.1 hH (k_X12_refuse l G ad σ (-6) 6 rfl (by decide)) lk_X12_47 rfl 0 11 rfl rfl rfl ⟨Nat.le_of_ble_eq_true rfl, Nat.le_of_ble_eq_true rfl⟩ ⟨Nat.le_refl _, Nat.le_refl _⟩ (Nat.le_of_ble_eq_true rfl) rfl dX12_row_30 (fun H locs hH => ?_)
      exact x_iret hC hr hkL hH (by first | exact rfAk (letC6 g1 g2) (by decide) | exact rfAk (letCf g1 g2 f_) (by decide)) ((((congrArg (fun z_ : Nat → Int32 => WM G ad (ua (ua (ua σ 0 z_) 1 (rfz (σ 1) (letC n v 999 4))) 7 (ifz (letC n v 999 4) (upd (σ 7) n v) (σ 7)))) (by first | exact ifzk (letC4 g1) (by decide) | exact ifzk (letC6 g1 g2) (by decide) | exact ifzk (letCf g1 g2 f_) (by decide) | (rw [ifzk (letC4 g1) (by decide), ← hn]; exact upd_id rfl) | (rw [ifzk (letC6 g1 g2) (by decide), ← hn]; exact upd_id rfl) | (rw [ifzk (letCf g1 g2 f_) (by decide), ← hn]; exact upd_id rfl) : (upd (σ 0) 14 (nI (ifz (letC n v 999 4) (n + 1) n))) = (σ 0))).trans (congrArg (fun z_ : Nat → Int32 => WM G ad (ua (ua (ua σ 0 (σ 0)) 1 z_) 7 (ifz (letC n v 999 4) (upd (σ 7) n v) (σ 7)))) (by first | exact rfzk (letC6 g1 g2) (by decide) | exact rfzk (letCf g1 g2 f_) (by decide) : (rfz (σ 1) (letC n v 999 4)) = (upd (σ 1) 6 ((σ 1) 6 + 1))))).trans (congrArg (fun z_ : Nat → Int32 => WM G ad (ua (ua (ua σ 0 (σ 0)) 1 (upd (σ 1) 6 ((σ 1) 6 + 1))) 7 z_)) (by first | exact ifzk (letC4 g1) (by decide) | exact ifzk (letC6 g1 g2) (by decide) | exact ifzk (letCf g1 g2 f_) (by decide) | (rw [ifzk (letC4 g1) (by decide), ← hn]; exact upd_id rfl) | (rw [ifzk (letC6 g1 g2) (by decide), ← hn]; exact upd_id rfl) | (rw [ifzk (letCf g1 g2 f_) (by decide), ← hn]; exact upd_id rfl) : (ifz (letC n v 999 4) (upd (σ 7) n v) (σ 7)) = (σ 7)))).trans (show WM G ad (ua (ua (ua σ 0 (σ 0)) 1 (upd (σ 1) 6 ((σ 1) 6 + 1))) 7 (σ 7)) = WM G ad (ua σ 1 (upd (σ 1) 6 ((σ 1) 6 + 1))) from rfl)) dX12_row_33
set_option maxHeartbeats 4000000 in
set_option maxRecDepth 100000 in
theorem k_X12_meanOf (l : Launch) (G : GP) (ad : Nat → Nat) (σ : Nat → Nat → Int32) (p : Int32) (β : Bk) (hR : RB (σ 2) β) : CTE l G yX12_meanOf cX12_meanOf 5 (some .int) 5 [.ref (ad 0), .int p] (WM G ad σ) (some (.int (meanA β p))) (fun z => WM G ad (ua σ 0 (upd (upd (upd (upd (σ 0) 9 (z 0 9)) 10 (z 0 10)) 11 (z 0 11)) 12 (z 0 12)))) := by
  refine x_methE "BetsOnBetsModel" rfl (by decide +kernel) (fun z => by rfl) (Nat.le_of_ble_eq_true rfl) ?_
  intro pP eE sS mM args below meth cC A ls hC hr hkL hK hZ hA hH hl
  have hx := hC.1
  have hb := hC.2.1
  have hl : lv_has ls 5 [(0, .ref (ad 0)), (1, .int p)] := hl
  have hh4 := hR.2.2.1
  have hk6 := hR.2.2.2.1
  have pwh := pw4 hh4
  have pwk := pw6 hk6
  refine lv_lconst (v := 0) hx hb dX12_meanOf_0 (by decide) ?_
  refine lv_lstore_n (lv' := [(2, .long (0 : Int64)), (0, .ref (ad 0)), (1, .int p)]) hx hb dX12_meanOf_1 rfl hl (by decide) rfl (fun ls hl => ?_)
  refine lv_iconst (v := 0) hx hb dX12_meanOf_2 (by decide) ?_
  refine lv_istore (lv' := [(4, .int 0), (2, .long (0 : Int64)), (0, .ref (ad 0)), (1, .int p)]) hx hb dX12_meanOf_3 hl (by decide) rfl (fun ls hl => ?_)
  refine x_loop (G := G) (A := A) (H0 := sS.heap) (nL := 5) (α := Nat × (Nat → Nat → Int32)) (fun q_ => (2 ^ bH β) - q_.1) (fun q_ => q_.1 ≤ (2 ^ bH β)) (fun q_ => WM G ad (ua σ 0 (upd (upd (upd (upd (σ 0) 9 (q_.2 0 9)) 10 (q_.2 0 10)) 11 (q_.2 0 11)) 12 (q_.2 0 12)))) (fun q_ => [(0, .ref (ad 0)), (1, .int p), (2, .long (sumM β p q_.1)), (4, .int (nI q_.1))]) ?_ (0, σ) (show 0 ≤ (2 ^ bH β) from (Nat.zero_le _)) ?_ ?_
  · rintro ⟨e, z_e⟩ hi_e ih_e H locs ls hH hl
    replace hi_e : e ≤ (2 ^ bH β) := hi_e
    replace hH : Hx G A (WM G ad (ua σ 0 (upd (upd (upd (upd (σ 0) 9 (z_e 0 9)) 10 (z_e 0 10)) 11 (z_e 0 11)) 12 (z_e 0 12)))) sS.heap H locs := hH
    replace hl : lv_has ls 5 [(0, .ref (ad 0)), (1, .int p), (2, .long (sumM β p e)), (4, .int (nI e))] := hl
    refine lv_iload hx hb dX12_meanOf_5 (lv_at hl 3 rfl) ?_
    refine lv_aload_n hx hb dX12_meanOf_7 rfl (lv_at hl 0 rfl) ?_
    refine x_callVA (ws' := WM G ad (ua σ 0 (upd (upd (upd (upd (σ 0) 9 (z_e 0 9)) 10 (z_e 0 10)) 11 (z_e 0 11)) 12 (z_e 0 12)))) (As := []) (rest := [.int (nI e)]) (st' := [.int (nI (2 ^ bH β)), .int (nI e)]) hC hK hZ hA hl.1 hH (k_X12_ends l G ad (ua σ 0 (upd (upd (upd (upd (σ 0) 9 (z_e 0 9)) 10 (z_e 0 10)) 11 (z_e 0 11)) 12 (z_e 0 12))) β hR) lk_X12_35 rfl 0 11 rfl rfl rfl ⟨Nat.le_of_ble_eq_true rfl, Nat.le_of_ble_eq_true rfl⟩ ⟨Nat.le_refl _, Nat.le_refl _⟩ (Nat.le_of_ble_eq_true rfl) rfl dX12_meanOf_8 (fun H locs hH => ?_)
    refine lv_icmp_ge (tgt := 38) hx hb dX12_meanOf_11 (by decide) (fun c11 => ?_) (fun c11 => ?_)
    · have ge_e := lp_out (n := 2 ^ bH β) rfl (by omega) (by omega) c11
      have eq_e : e = 2 ^ bH β := by omega
      refine lv_ldc2 (v := 100) hx hb hC.2.2.2.1 (hC.2.2.2.2 _ wd_954) dX12_meanOf_38 ?_
      refine lv_lload_n hx hb dX12_meanOf_41 rfl (lv_at hl 2 rfl) ?_
      refine lv_lmul hx hb dX12_meanOf_42 ?_
      refine lv_aload_n hx hb dX12_meanOf_43 rfl (lv_at hl 0 rfl) ?_
      refine x_callVA (ws' := WM G ad (ua σ 0 (upd (upd (upd (upd (σ 0) 9 (z_e 0 9)) 10 (z_e 0 10)) 11 (z_e 0 11)) 12 (z_e 0 12)))) (As := []) (rest := [.long ((100 : Int64) * (sumM β p e))]) (st' := [.long (whl (bH β)), .long ((100 : Int64) * (sumM β p e))]) hC hK hZ hA hl.1 hH (k_X12_wholeWeight l G ad (ua σ 0 (upd (upd (upd (upd (σ 0) 9 (z_e 0 9)) 10 (z_e 0 10)) 11 (z_e 0 11)) 12 (z_e 0 12))) β hR) lk_X12_142 rfl 0 11 rfl rfl rfl ⟨Nat.le_of_ble_eq_true rfl, Nat.le_of_ble_eq_true rfl⟩ ⟨Nat.le_refl _, Nat.le_refl _⟩ (Nat.le_of_ble_eq_true rfl) rfl dX12_meanOf_44 (fun H locs hH => ?_)
      refine lv_ldiv hx hb dX12_meanOf_47 (whl_ne _ (by omega)) ?_
      refine lv_l2i (v := ((((100 : Int64) * (sumM β p e)) / (whl (bH β))).toInt32)) hx hb dX12_meanOf_48 rfl ?_
      exact x_iretE (ua σ 0 (upd (upd (upd (upd (σ 0) 9 (z_e 0 9)) 10 (z_e 0 10)) 11 (z_e 0 11)) 12 (z_e 0 12))) hC hr hkL hH (by rw [eq_e]; rfl) rfl dX12_meanOf_49
    · have lt_e := lp_in (n := 2 ^ bH β) rfl (by omega) (by omega) c11
      refine lv_lload_n hx hb dX12_meanOf_14 rfl (lv_at hl 2 rfl) ?_
      refine lv_aload_n hx hb dX12_meanOf_15 rfl (lv_at hl 0 rfl) ?_
      refine lv_iload hx hb dX12_meanOf_16 (lv_at hl 3 rfl) ?_
      refine x_callVA (ws' := WM G ad (ua σ 0 (upd (upd (upd (upd (σ 0) 9 (z_e 0 9)) 10 (z_e 0 10)) 11 (z_e 0 11)) 12 (z_e 0 12)))) (As := [.int (nI e)]) (rest := [.long (sumM β p e)]) (st' := [.long (wgtA β (nI e)), .long (sumM β p e)]) hC hK hZ hA hl.1 hH (k_X12_weightOf l G ad (ua σ 0 (upd (upd (upd (upd (σ 0) 9 (z_e 0 9)) 10 (z_e 0 10)) 11 (z_e 0 11)) 12 (z_e 0 12))) (nI e) β hR) lk_X12_138 rfl 0 11 rfl rfl rfl ⟨Nat.le_of_ble_eq_true rfl, Nat.le_of_ble_eq_true rfl⟩ ⟨Nat.le_refl _, Nat.le_refl _⟩ (Nat.le_of_ble_eq_true rfl) rfl dX12_meanOf_18 (fun H locs hH => ?_)
      refine lv_aload_n hx hb dX12_meanOf_21 rfl (lv_at hl 0 rfl) ?_
      refine lv_iload_n hx hb dX12_meanOf_22 rfl (lv_at hl 1 rfl) ?_
      refine lv_iload hx hb dX12_meanOf_23 (lv_at hl 3 rfl) ?_
      refine x_callVAE (wg := fun z25 => WM G ad (ua σ 0 (upd (upd (upd (upd (σ 0) 9 (z25 0 9)) 10 (z25 0 10)) 11 (z25 0 11)) 12 (z25 0 12)))) (As := [.int p, .int (nI e)]) (rest := [.long (wgtA β (nI e)), .long (sumM β p e)]) (st' := [.int (purA β p (nI e)), .long (wgtA β (nI e)), .long (sumM β p e)]) hC hK hZ hA hl.1 hH (k_X12_purseOf l G ad (ua σ 0 (upd (upd (upd (upd (σ 0) 9 (z_e 0 9)) 10 (z_e 0 10)) 11 (z_e 0 11)) 12 (z_e 0 12))) p (nI e) β hR) lk_X12_132 rfl 0 11 rfl rfl rfl ⟨Nat.le_of_ble_eq_true rfl, Nat.le_of_ble_eq_true rfl⟩ ⟨Nat.le_refl _, Nat.le_refl _⟩ (Nat.le_of_ble_eq_true rfl) rfl dX12_meanOf_25 (fun z25 H locs hH => ?_)
      refine lv_i2l (v := ((purA β p (nI e)).toInt64)) hx hb dX12_meanOf_28 rfl ?_
      refine lv_lmul hx hb dX12_meanOf_29 ?_
      refine lv_ladd hx hb dX12_meanOf_30 ?_
      refine lv_lstore_n (lv' := [(2, .long ((sumM β p e) + ((wgtA β (nI e)) * ((purA β p (nI e)).toInt64)))), (0, .ref (ad 0)), (1, .int p), (4, .int (nI e))]) hx hb dX12_meanOf_31 rfl hl (by decide) rfl (fun ls hl => ?_)
      refine lv_iinc (v := ((nI e) + 1)) (lv' := [(4, .int ((nI e) + 1)), (2, .long ((sumM β p e) + ((wgtA β (nI e)) * ((purA β p (nI e)).toInt64)))), (0, .ref (ad 0)), (1, .int p)]) hx hb dX12_meanOf_32 hl (k := 3) rfl rfl (by decide) rfl (fun ls hl => ?_)
      refine lv_goto (tgt := 5) hx hb dX12_meanOf_35 (by decide) ?_
      exact ih_e ((e + 1), (ua σ 0 (upd (upd (upd (upd (σ 0) 9 (z25 0 9)) 10 (z25 0 10)) 11 (z25 0 11)) 12 (z25 0 12)))) (show (e + 1) ≤ (2 ^ bH β) from (by omega)) (show (2 ^ bH β) - (e + 1) < (2 ^ bH β) - e from (by omega)) _ _ _ (hH.eq rfl) (lv_eq (lv_sub hl [2, 3, 1, 0] rfl) (lc_s (lc_s (lc_l (by first | exact nI_1 _ | rfl : ((sumM β p e) + ((wgtA β (nI e)) * ((purA β p (nI e)).toInt64))) = (sumM β p (e + 1))) (lc_i (by first | exact nI_1 _ | rfl : ((nI e) + 1) = (nI (e + 1))) rfl)))))
  · exact hH.eq rfl
  · exact lv_eq (lv_sub hl [2, 3, 1, 0] rfl) (lc_s (lc_s (lc_l (by rfl : (0 : Int64) = (sumM β p 0)) (lc_i (by rfl : 0 = (nI 0)) rfl))))
set_option maxHeartbeats 4000000 in
set_option maxRecDepth 100000 in
theorem k_X12_worstEnd (l : Launch) (G : GP) (ad : Nat → Nat) (σ : Nat → Nat → Int32) (p : Int32) (β : Bk) (hR : RB (σ 2) β) : CTE l G yX12_worstEnd cX12_worstEnd 4 (some .int) 5 [.ref (ad 0), .int p] (WM G ad σ) (some (.int (nI (wEA β p)))) (fun z => WM G ad (ua σ 0 (upd (upd (upd (upd (σ 0) 9 (z 0 9)) 10 (z 0 10)) 11 (z 0 11)) 12 (z 0 12)))) := by
  refine x_methE "BetsOnBetsModel" rfl (by decide +kernel) (fun z => by rfl) (Nat.le_of_ble_eq_true rfl) ?_
  intro pP eE sS mM args below meth cC A ls hC hr hkL hK hZ hA hH hl
  have hx := hC.1
  have hb := hC.2.1
  have hl : lv_has ls 4 [(0, .ref (ad 0)), (1, .int p)] := hl
  have hh4 := hR.2.2.1
  have hk6 := hR.2.2.2.1
  have pwh := pw4 hh4
  have pwk := pw6 hk6
  refine lv_iconst (v := 0) hx hb dX12_worstEnd_0 (by decide) ?_
  refine lv_istore_n (lv' := [(2, .int 0), (0, .ref (ad 0)), (1, .int p)]) hx hb dX12_worstEnd_1 rfl hl (by decide) rfl (fun ls hl => ?_)
  refine lv_iconst (v := 1) hx hb dX12_worstEnd_2 (by decide) ?_
  refine lv_istore_n (lv' := [(3, .int 1), (2, .int 0), (0, .ref (ad 0)), (1, .int p)]) hx hb dX12_worstEnd_3 rfl hl (by decide) rfl (fun ls hl => ?_)
  refine x_loop (G := G) (A := A) (H0 := sS.heap) (nL := 4) (α := Nat × (Nat → Nat → Int32)) (fun q_ => (2 ^ bH β) - q_.1) (fun q_ => q_.1 ≤ (2 ^ bH β)) (fun q_ => WM G ad (ua σ 0 (upd (upd (upd (upd (σ 0) 9 (q_.2 0 9)) 10 (q_.2 0 10)) 11 (q_.2 0 11)) 12 (q_.2 0 12)))) (fun q_ => [(0, .ref (ad 0)), (1, .int p), (2, .int (nI (wEnd β p q_.1))), (3, .int (nI q_.1))]) ?_ (1, σ) (show 1 ≤ (2 ^ bH β) from Nat.one_le_two_pow) ?_ ?_
  · rintro ⟨e, z_e⟩ hi_e ih_e H locs ls hH hl
    replace hi_e : e ≤ (2 ^ bH β) := hi_e
    replace hH : Hx G A (WM G ad (ua σ 0 (upd (upd (upd (upd (σ 0) 9 (z_e 0 9)) 10 (z_e 0 10)) 11 (z_e 0 11)) 12 (z_e 0 12)))) sS.heap H locs := hH
    replace hl : lv_has ls 4 [(0, .ref (ad 0)), (1, .int p), (2, .int (nI (wEnd β p e))), (3, .int (nI e))] := hl
    refine lv_iload_n hx hb dX12_worstEnd_4 rfl (lv_at hl 3 rfl) ?_
    refine lv_aload_n hx hb dX12_worstEnd_5 rfl (lv_at hl 0 rfl) ?_
    refine x_callVA (ws' := WM G ad (ua σ 0 (upd (upd (upd (upd (σ 0) 9 (z_e 0 9)) 10 (z_e 0 10)) 11 (z_e 0 11)) 12 (z_e 0 12)))) (As := []) (rest := [.int (nI e)]) (st' := [.int (nI (2 ^ bH β)), .int (nI e)]) hC hK hZ hA hl.1 hH (k_X12_ends l G ad (ua σ 0 (upd (upd (upd (upd (σ 0) 9 (z_e 0 9)) 10 (z_e 0 10)) 11 (z_e 0 11)) 12 (z_e 0 12))) β hR) lk_X12_35 rfl 0 11 rfl rfl rfl ⟨Nat.le_of_ble_eq_true rfl, Nat.le_of_ble_eq_true rfl⟩ ⟨Nat.le_refl _, Nat.le_refl _⟩ (Nat.le_of_ble_eq_true rfl) rfl dX12_worstEnd_6 (fun H locs hH => ?_)
    refine lv_icmp_ge (tgt := 35) hx hb dX12_worstEnd_9 (by decide) (fun c9 => ?_) (fun c9 => ?_)
    · have ge_e := lp_out (n := 2 ^ bH β) rfl (by omega) (by omega) c9
      have eq_e : e = 2 ^ bH β := by omega
      refine lv_iload_n hx hb dX12_worstEnd_35 rfl (lv_at hl 2 rfl) ?_
      exact x_iretE (ua σ 0 (upd (upd (upd (upd (σ 0) 9 (z_e 0 9)) 10 (z_e 0 10)) 11 (z_e 0 11)) 12 (z_e 0 12))) hC hr hkL hH (by rw [eq_e]; rfl) rfl dX12_worstEnd_36
    · have lt_e := lp_in (n := 2 ^ bH β) rfl (by omega) (by omega) c9
      refine lv_aload_n hx hb dX12_worstEnd_12 rfl (lv_at hl 0 rfl) ?_
      refine lv_iload_n hx hb dX12_worstEnd_13 rfl (lv_at hl 1 rfl) ?_
      refine lv_iload_n hx hb dX12_worstEnd_14 rfl (lv_at hl 3 rfl) ?_
      refine x_callVAE (wg := fun z15 => WM G ad (ua σ 0 (upd (upd (upd (upd (σ 0) 9 (z15 0 9)) 10 (z15 0 10)) 11 (z15 0 11)) 12 (z15 0 12)))) (As := [.int p, .int (nI e)]) (rest := []) (st' := [.int (purA β p (nI e))]) hC hK hZ hA hl.1 hH (k_X12_purseOf l G ad (ua σ 0 (upd (upd (upd (upd (σ 0) 9 (z_e 0 9)) 10 (z_e 0 10)) 11 (z_e 0 11)) 12 (z_e 0 12))) p (nI e) β hR) lk_X12_132 rfl 0 11 rfl rfl rfl ⟨Nat.le_of_ble_eq_true rfl, Nat.le_of_ble_eq_true rfl⟩ ⟨Nat.le_refl _, Nat.le_refl _⟩ (Nat.le_of_ble_eq_true rfl) rfl dX12_worstEnd_15 (fun z15 H locs hH => ?_)
      refine lv_aload_n hx hb dX12_worstEnd_18 rfl (lv_at hl 0 rfl) ?_
      refine lv_iload_n hx hb dX12_worstEnd_19 rfl (lv_at hl 1 rfl) ?_
      refine lv_iload_n hx hb dX12_worstEnd_20 rfl (lv_at hl 2 rfl) ?_
      refine x_callVAE (wg := fun z21 => WM G ad (ua σ 0 (upd (upd (upd (upd (σ 0) 9 (z21 0 9)) 10 (z21 0 10)) 11 (z21 0 11)) 12 (z21 0 12)))) (As := [.int p, .int (nI (wEnd β p e))]) (rest := [.int (purA β p (nI e))]) (st' := [.int (purA β p (nI (wEnd β p e))), .int (purA β p (nI e))]) hC hK hZ hA hl.1 hH (k_X12_purseOf l G ad (ua σ 0 (upd (upd (upd (upd (σ 0) 9 (z15 0 9)) 10 (z15 0 10)) 11 (z15 0 11)) 12 (z15 0 12))) p (nI (wEnd β p e)) β hR) lk_X12_132 rfl 0 11 rfl rfl rfl ⟨Nat.le_of_ble_eq_true rfl, Nat.le_of_ble_eq_true rfl⟩ ⟨Nat.le_refl _, Nat.le_refl _⟩ (Nat.le_of_ble_eq_true rfl) rfl dX12_worstEnd_21 (fun z21 H locs hH => ?_)
      refine lv_icmp_ge (tgt := 29) hx hb dX12_worstEnd_24 (by decide) (fun c24 => ?_) (fun c24 => ?_)
      · refine lv_iinc (v := ((nI e) + 1)) (lv' := [(3, .int ((nI e) + 1)), (0, .ref (ad 0)), (1, .int p), (2, .int (nI (wEnd β p e)))]) hx hb dX12_worstEnd_29 hl (k := 3) rfl rfl (by decide) rfl (fun ls hl => ?_)
        refine lv_goto (tgt := 4) hx hb dX12_worstEnd_32 (by decide) ?_
        exact ih_e ((e + 1), (ua σ 0 (upd (upd (upd (upd (σ 0) 9 (z21 0 9)) 10 (z21 0 10)) 11 (z21 0 11)) 12 (z21 0 12)))) (show (e + 1) ≤ (2 ^ bH β) from (by omega)) (show (2 ^ bH β) - (e + 1) < (2 ^ bH β) - e from (by omega)) _ _ _ (hH.eq rfl) (lv_eq (lv_sub hl [1, 2, 3, 0] rfl) (lc_s (lc_s (lc_i (by first | (rw [wEnd_f (Int32.not_lt.mpr c24)]; done) | (rw [wEnd_t (Int32.not_le.mp c24)]; done) : (nI (wEnd β p e)) = (nI (wEnd β p (e + 1)))) (lc_i (by exact nI_1 _ : ((nI e) + 1) = (nI (e + 1))) rfl)))))
      · refine lv_iload_n hx hb dX12_worstEnd_27 rfl (lv_at hl 3 rfl) ?_
        refine lv_istore_n (lv' := [(2, .int (nI e)), (0, .ref (ad 0)), (1, .int p), (3, .int (nI e))]) hx hb dX12_worstEnd_28 rfl hl (by decide) rfl (fun ls hl => ?_)
        refine lv_iinc (v := ((nI e) + 1)) (lv' := [(3, .int ((nI e) + 1)), (2, .int (nI e)), (0, .ref (ad 0)), (1, .int p)]) hx hb dX12_worstEnd_29 hl (k := 3) rfl rfl (by decide) rfl (fun ls hl => ?_)
        refine lv_goto (tgt := 4) hx hb dX12_worstEnd_32 (by decide) ?_
        exact ih_e ((e + 1), (ua σ 0 (upd (upd (upd (upd (σ 0) 9 (z21 0 9)) 10 (z21 0 10)) 11 (z21 0 11)) 12 (z21 0 12)))) (show (e + 1) ≤ (2 ^ bH β) from (by omega)) (show (2 ^ bH β) - (e + 1) < (2 ^ bH β) - e from (by omega)) _ _ _ (hH.eq rfl) (lv_eq (lv_sub hl [2, 3, 1, 0] rfl) (lc_s (lc_s (lc_i (by first | (rw [wEnd_f (Int32.not_lt.mpr c24)]; done) | (rw [wEnd_t (Int32.not_le.mp c24)]; done) : (nI e) = (nI (wEnd β p (e + 1)))) (lc_i (by exact nI_1 _ : ((nI e) + 1) = (nI (e + 1))) rfl)))))
  · exact hH.eq rfl
  · exact lv_eq (lv_sub hl [2, 3, 1, 0] rfl) (lc_s (lc_s (lc_i (by rw [wEnd_1]; rfl : 0 = (nI (wEnd β p 1))) (lc_i (by rfl : 1 = (nI 1)) rfl))))
set_option maxHeartbeats 4000000 in
set_option maxRecDepth 100000 in
theorem k_X12_bestEnd (l : Launch) (G : GP) (ad : Nat → Nat) (σ : Nat → Nat → Int32) (p : Int32) (β : Bk) (hR : RB (σ 2) β) : CTE l G yX12_bestEnd cX12_bestEnd 4 (some .int) 5 [.ref (ad 0), .int p] (WM G ad σ) (some (.int (nI (bEA β p)))) (fun z => WM G ad (ua σ 0 (upd (upd (upd (upd (σ 0) 9 (z 0 9)) 10 (z 0 10)) 11 (z 0 11)) 12 (z 0 12)))) := by
  refine x_methE "BetsOnBetsModel" rfl (by decide +kernel) (fun z => by rfl) (Nat.le_of_ble_eq_true rfl) ?_
  intro pP eE sS mM args below meth cC A ls hC hr hkL hK hZ hA hH hl
  have hx := hC.1
  have hb := hC.2.1
  have hl : lv_has ls 4 [(0, .ref (ad 0)), (1, .int p)] := hl
  have hh4 := hR.2.2.1
  have hk6 := hR.2.2.2.1
  have pwh := pw4 hh4
  have pwk := pw6 hk6
  refine lv_iconst (v := 0) hx hb dX12_bestEnd_0 (by decide) ?_
  refine lv_istore_n (lv' := [(2, .int 0), (0, .ref (ad 0)), (1, .int p)]) hx hb dX12_bestEnd_1 rfl hl (by decide) rfl (fun ls hl => ?_)
  refine lv_iconst (v := 1) hx hb dX12_bestEnd_2 (by decide) ?_
  refine lv_istore_n (lv' := [(3, .int 1), (2, .int 0), (0, .ref (ad 0)), (1, .int p)]) hx hb dX12_bestEnd_3 rfl hl (by decide) rfl (fun ls hl => ?_)
  refine x_loop (G := G) (A := A) (H0 := sS.heap) (nL := 4) (α := Nat × (Nat → Nat → Int32)) (fun q_ => (2 ^ bH β) - q_.1) (fun q_ => q_.1 ≤ (2 ^ bH β)) (fun q_ => WM G ad (ua σ 0 (upd (upd (upd (upd (σ 0) 9 (q_.2 0 9)) 10 (q_.2 0 10)) 11 (q_.2 0 11)) 12 (q_.2 0 12)))) (fun q_ => [(0, .ref (ad 0)), (1, .int p), (2, .int (nI (bEnd β p q_.1))), (3, .int (nI q_.1))]) ?_ (1, σ) (show 1 ≤ (2 ^ bH β) from Nat.one_le_two_pow) ?_ ?_
  · rintro ⟨e, z_e⟩ hi_e ih_e H locs ls hH hl
    replace hi_e : e ≤ (2 ^ bH β) := hi_e
    replace hH : Hx G A (WM G ad (ua σ 0 (upd (upd (upd (upd (σ 0) 9 (z_e 0 9)) 10 (z_e 0 10)) 11 (z_e 0 11)) 12 (z_e 0 12)))) sS.heap H locs := hH
    replace hl : lv_has ls 4 [(0, .ref (ad 0)), (1, .int p), (2, .int (nI (bEnd β p e))), (3, .int (nI e))] := hl
    refine lv_iload_n hx hb dX12_bestEnd_4 rfl (lv_at hl 3 rfl) ?_
    refine lv_aload_n hx hb dX12_bestEnd_5 rfl (lv_at hl 0 rfl) ?_
    refine x_callVA (ws' := WM G ad (ua σ 0 (upd (upd (upd (upd (σ 0) 9 (z_e 0 9)) 10 (z_e 0 10)) 11 (z_e 0 11)) 12 (z_e 0 12)))) (As := []) (rest := [.int (nI e)]) (st' := [.int (nI (2 ^ bH β)), .int (nI e)]) hC hK hZ hA hl.1 hH (k_X12_ends l G ad (ua σ 0 (upd (upd (upd (upd (σ 0) 9 (z_e 0 9)) 10 (z_e 0 10)) 11 (z_e 0 11)) 12 (z_e 0 12))) β hR) lk_X12_35 rfl 0 11 rfl rfl rfl ⟨Nat.le_of_ble_eq_true rfl, Nat.le_of_ble_eq_true rfl⟩ ⟨Nat.le_refl _, Nat.le_refl _⟩ (Nat.le_of_ble_eq_true rfl) rfl dX12_bestEnd_6 (fun H locs hH => ?_)
    refine lv_icmp_ge (tgt := 35) hx hb dX12_bestEnd_9 (by decide) (fun c9 => ?_) (fun c9 => ?_)
    · have ge_e := lp_out (n := 2 ^ bH β) rfl (by omega) (by omega) c9
      have eq_e : e = 2 ^ bH β := by omega
      refine lv_iload_n hx hb dX12_bestEnd_35 rfl (lv_at hl 2 rfl) ?_
      exact x_iretE (ua σ 0 (upd (upd (upd (upd (σ 0) 9 (z_e 0 9)) 10 (z_e 0 10)) 11 (z_e 0 11)) 12 (z_e 0 12))) hC hr hkL hH (by rw [eq_e]; rfl) rfl dX12_bestEnd_36
    · have lt_e := lp_in (n := 2 ^ bH β) rfl (by omega) (by omega) c9
      refine lv_aload_n hx hb dX12_bestEnd_12 rfl (lv_at hl 0 rfl) ?_
      refine lv_iload_n hx hb dX12_bestEnd_13 rfl (lv_at hl 1 rfl) ?_
      refine lv_iload_n hx hb dX12_bestEnd_14 rfl (lv_at hl 3 rfl) ?_
      refine x_callVAE (wg := fun z15 => WM G ad (ua σ 0 (upd (upd (upd (upd (σ 0) 9 (z15 0 9)) 10 (z15 0 10)) 11 (z15 0 11)) 12 (z15 0 12)))) (As := [.int p, .int (nI e)]) (rest := []) (st' := [.int (purA β p (nI e))]) hC hK hZ hA hl.1 hH (k_X12_purseOf l G ad (ua σ 0 (upd (upd (upd (upd (σ 0) 9 (z_e 0 9)) 10 (z_e 0 10)) 11 (z_e 0 11)) 12 (z_e 0 12))) p (nI e) β hR) lk_X12_132 rfl 0 11 rfl rfl rfl ⟨Nat.le_of_ble_eq_true rfl, Nat.le_of_ble_eq_true rfl⟩ ⟨Nat.le_refl _, Nat.le_refl _⟩ (Nat.le_of_ble_eq_true rfl) rfl dX12_bestEnd_15 (fun z15 H locs hH => ?_)
      refine lv_aload_n hx hb dX12_bestEnd_18 rfl (lv_at hl 0 rfl) ?_
      refine lv_iload_n hx hb dX12_bestEnd_19 rfl (lv_at hl 1 rfl) ?_
      refine lv_iload_n hx hb dX12_bestEnd_20 rfl (lv_at hl 2 rfl) ?_
      refine x_callVAE (wg := fun z21 => WM G ad (ua σ 0 (upd (upd (upd (upd (σ 0) 9 (z21 0 9)) 10 (z21 0 10)) 11 (z21 0 11)) 12 (z21 0 12)))) (As := [.int p, .int (nI (bEnd β p e))]) (rest := [.int (purA β p (nI e))]) (st' := [.int (purA β p (nI (bEnd β p e))), .int (purA β p (nI e))]) hC hK hZ hA hl.1 hH (k_X12_purseOf l G ad (ua σ 0 (upd (upd (upd (upd (σ 0) 9 (z15 0 9)) 10 (z15 0 10)) 11 (z15 0 11)) 12 (z15 0 12))) p (nI (bEnd β p e)) β hR) lk_X12_132 rfl 0 11 rfl rfl rfl ⟨Nat.le_of_ble_eq_true rfl, Nat.le_of_ble_eq_true rfl⟩ ⟨Nat.le_refl _, Nat.le_refl _⟩ (Nat.le_of_ble_eq_true rfl) rfl dX12_bestEnd_21 (fun z21 H locs hH => ?_)
      refine lv_icmp_le (tgt := 29) hx hb dX12_bestEnd_24 (by decide) (fun c24 => ?_) (fun c24 => ?_)
      · refine lv_iinc (v := ((nI e) + 1)) (lv' := [(3, .int ((nI e) + 1)), (0, .ref (ad 0)), (1, .int p), (2, .int (nI (bEnd β p e)))]) hx hb dX12_bestEnd_29 hl (k := 3) rfl rfl (by decide) rfl (fun ls hl => ?_)
        refine lv_goto (tgt := 4) hx hb dX12_bestEnd_32 (by decide) ?_
        exact ih_e ((e + 1), (ua σ 0 (upd (upd (upd (upd (σ 0) 9 (z21 0 9)) 10 (z21 0 10)) 11 (z21 0 11)) 12 (z21 0 12)))) (show (e + 1) ≤ (2 ^ bH β) from (by omega)) (show (2 ^ bH β) - (e + 1) < (2 ^ bH β) - e from (by omega)) _ _ _ (hH.eq rfl) (lv_eq (lv_sub hl [1, 2, 3, 0] rfl) (lc_s (lc_s (lc_i (by first | (rw [bEnd_f (Int32.not_lt.mpr c24)]; done) | (rw [bEnd_t (Int32.not_le.mp c24)]; done) : (nI (bEnd β p e)) = (nI (bEnd β p (e + 1)))) (lc_i (by exact nI_1 _ : ((nI e) + 1) = (nI (e + 1))) rfl)))))
      · refine lv_iload_n hx hb dX12_bestEnd_27 rfl (lv_at hl 3 rfl) ?_
        refine lv_istore_n (lv' := [(2, .int (nI e)), (0, .ref (ad 0)), (1, .int p), (3, .int (nI e))]) hx hb dX12_bestEnd_28 rfl hl (by decide) rfl (fun ls hl => ?_)
        refine lv_iinc (v := ((nI e) + 1)) (lv' := [(3, .int ((nI e) + 1)), (2, .int (nI e)), (0, .ref (ad 0)), (1, .int p)]) hx hb dX12_bestEnd_29 hl (k := 3) rfl rfl (by decide) rfl (fun ls hl => ?_)
        refine lv_goto (tgt := 4) hx hb dX12_bestEnd_32 (by decide) ?_
        exact ih_e ((e + 1), (ua σ 0 (upd (upd (upd (upd (σ 0) 9 (z21 0 9)) 10 (z21 0 10)) 11 (z21 0 11)) 12 (z21 0 12)))) (show (e + 1) ≤ (2 ^ bH β) from (by omega)) (show (2 ^ bH β) - (e + 1) < (2 ^ bH β) - e from (by omega)) _ _ _ (hH.eq rfl) (lv_eq (lv_sub hl [2, 3, 1, 0] rfl) (lc_s (lc_s (lc_i (by first | (rw [bEnd_f (Int32.not_lt.mpr c24)]; done) | (rw [bEnd_t (Int32.not_le.mp c24)]; done) : (nI e) = (nI (bEnd β p (e + 1)))) (lc_i (by exact nI_1 _ : ((nI e) + 1) = (nI (e + 1))) rfl)))))
  · exact hH.eq rfl
  · exact lv_eq (lv_sub hl [2, 3, 1, 0] rfl) (lc_s (lc_s (lc_i (by rw [bEnd_1]; rfl : 0 = (nI (bEnd β p 1))) (lc_i (by rfl : 1 = (nI 1)) rfl))))
set_option maxHeartbeats 4000000 in
set_option maxRecDepth 100000 in
theorem k_X12_wrong (l : Launch) (G : GP) (ad : Nat → Nat) (σ : Nat → Nat → Int32) (p : Int32) (w : Int32) : CT l G yX12_wrong cX12_wrong 3 (some .int) 2 [.ref (ad 0), .int p, .int w] (WM G ad σ) (some (.int (wrongF p w))) (WM G ad σ) := by
  refine x_meth "BetsOnBetsModel" rfl (by decide +kernel) (by rfl) (Nat.le_of_ble_eq_true rfl) ?_
  intro pP eE sS mM args below meth cC A ls hC hr hkL hK hZ hA hH hl
  have hx := hC.1
  have hb := hC.2.1
  have hl : lv_has ls 3 [(0, .ref (ad 0)), (1, .int p), (2, .int w)] := hl
  refine lv_iload_n hx hb dX12_wrong_0 rfl (lv_at hl 1 rfl) ?_
  refine x_callS (ws' := WM G ad σ) (As := [.int p]) (rest := []) (st' := [.int (bI (0 ≤ p ∧ p < 4))]) hC hK hZ hA hl.1 hH (k_X12_isPerson l G (pk ad []) (pk σ []) p) lk_X12_77 [] rfl rfl rfl rfl ⟨Nat.le_of_ble_eq_true rfl, Nat.le_of_ble_eq_true rfl⟩ ⟨Nat.le_refl _, Nat.le_refl _⟩ (Nat.le_of_ble_eq_true rfl) rfl dX12_wrong_1 (fun H locs hH => ?_)
  refine x_bne (tgt := 11) hC dX12_wrong_4 (by decide) (fun c4 => ?_) (fun c4 => ?_)
  · refine lv_iload_n hx hb dX12_wrong_11 rfl (lv_at hl 2 rfl) ?_
    refine lv_iconst (v := 2) hx hb dX12_wrong_12 (by decide) ?_
    refine x_callS (ws' := WM G ad σ) (As := [.int w, .int 2]) (rest := []) (st' := [.int (bI (0 ≤ w ∧ w < 2))]) hC hK hZ hA hl.1 hH (k_X12_isIn l G (pk ad []) (pk σ []) w 2) lk_X12_31 [] rfl rfl rfl rfl ⟨Nat.le_of_ble_eq_true rfl, Nat.le_of_ble_eq_true rfl⟩ ⟨Nat.le_refl _, Nat.le_refl _⟩ (Nat.le_of_ble_eq_true rfl) rfl dX12_wrong_13 (fun H locs hH => ?_)
    refine x_beq (tgt := 23) hC dX12_wrong_16 (by decide) (fun c16 => ?_) (fun c16 => ?_)
    · refine lv_bipush (v := (-2)) hx hb dX12_wrong_23 (by decide) ?_
      exact x_iret hC hr hkL hH (by first | exact cI_f c4 | exact (cI_t c4).trans (cI_t c16) | exact (cI_t c4).trans (cI_f c16)) rfl dX12_wrong_25
    · refine lv_iconst (v := 0) hx hb dX12_wrong_19 (by decide) ?_
      refine lv_goto (tgt := 25) hx hb dX12_wrong_20 (by decide) ?_
      exact x_iret hC hr hkL hH (by first | exact cI_f c4 | exact (cI_t c4).trans (cI_t c16) | exact (cI_t c4).trans (cI_f c16)) rfl dX12_wrong_25
  · refine lv_iconst (v := (-1)) hx hb dX12_wrong_7 (by decide) ?_
    refine lv_goto (tgt := 25) hx hb dX12_wrong_8 (by decide) ?_
    exact x_iret hC hr hkL hH (by first | exact cI_f c4 | exact (cI_t c4).trans (cI_t c16) | exact (cI_t c4).trans (cI_f c16)) rfl dX12_wrong_25
set_option maxHeartbeats 4000000 in
set_option maxRecDepth 100000 in
theorem k_X12_worst (l : Launch) (G : GP) (ad : Nat → Nat) (σ : Nat → Nat → Int32) (p : Int32) (w : Int32) (β : Bk) (hR : RB (σ 2) β) : CTE l G yX12_worst cX12_worst 5 (some .int) 6 [.ref (ad 0), .int p, .int w] (WM G ad σ) (some (.int (rfB (exC p w 4) (if w = 0 then worV β p else nI (wEA β p))))) (fun z => WM G ad (ua (ua σ 0 (upd (upd (upd (upd (σ 0) 9 (z 0 9)) 10 (z 0 10)) 11 (z 0 11)) 12 (z 0 12))) 1 (rfz (σ 1) (exC p w 4)))) := by
  refine x_methE "BetsOnBetsModel" rfl (by decide +kernel) (fun z => by rfl) (Nat.le_of_ble_eq_true rfl) ?_
  intro pP eE sS mM args below meth cC A ls hC hr hkL hK hZ hA hH hl
  have hx := hC.1
  have hb := hC.2.1
  have hl : lv_has ls 5 [(0, .ref (ad 0)), (1, .int p), (2, .int w)] := hl
  have hh4 := hR.2.2.1
  have hk6 := hR.2.2.2.1
  have pwh := pw4 hh4
  have pwk := pw6 hk6
  refine lv_aload_n hx hb dX12_worst_0 rfl (lv_at hl 0 rfl) ?_
  refine lv_iload_n hx hb dX12_worst_1 rfl (lv_at hl 1 rfl) ?_
  refine lv_iload_n hx hb dX12_worst_2 rfl (lv_at hl 2 rfl) ?_
  refine x_callVA (ws' := WM G ad σ) (As := [.int p, .int w]) (rest := []) (st' := [.int (wrongF p w)]) hC hK hZ hA hl.1 hH (k_X12_wrong l G ad σ p w) lk_X12_149 rfl 0 11 rfl rfl rfl ⟨Nat.le_of_ble_eq_true rfl, Nat.le_of_ble_eq_true rfl⟩ ⟨Nat.le_refl _, Nat.le_refl _⟩ (Nat.le_of_ble_eq_true rfl) rfl dX12_worst_3 (fun H locs hH => ?_)
  rcases wrongF_cases p w with ⟨g1, g2⟩ | ⟨g1, g2, g3⟩ | ⟨g1, g2, g3⟩
  · refine x_topE (y := (-1)) g2 ?_
    refine lv_istore_n (lv' := [(3, .int (-1)), (0, .ref (ad 0)), (1, .int p), (2, .int w)]) hx hb dX12_worst_6 rfl hl (by decide) rfl (fun ls hl => ?_)
    refine lv_iload_n hx hb dX12_worst_7 rfl (lv_at hl 0 rfl) ?_
    refine lv_if_eq (tgt := 20) hx hb dX12_worst_8 (by decide) (fun c8 => ?_) (fun c8 => ?_)
    · exact absurd c8 (by decide)
    refine lv_ldc (v := 1000000000) hx hb hC.2.2.2.1 (hC.2.2.2.2 _ wd_941) dX12_worst_11 ?_
    refine lv_aload_n hx hb dX12_worst_13 rfl (lv_at hl 1 rfl) ?_
    refine lv_iload_n hx hb dX12_worst_14 rfl (lv_at hl 0 rfl) ?_
    refine x_callVA (ws' := WM G ad (ua σ 1 (upd (σ 1) 1 ((σ 1) 1 + 1)))) (As := [.int (-1)]) (rest := [.int 1000000000]) (st' := [.int (-1), .int 1000000000]) hC hK hZ hA hl.1 hH (k_X12_refuse l G ad σ (-1) 1 rfl (by decide)) lk_X12_47 rfl 0 11 rfl rfl rfl ⟨Nat.le_of_ble_eq_true rfl, Nat.le_of_ble_eq_true rfl⟩ ⟨Nat.le_refl _, Nat.le_refl _⟩ (Nat.le_of_ble_eq_true rfl) rfl dX12_worst_15 (fun H locs hH => ?_)
    refine lv_isub hx hb dX12_worst_18 ?_
    exact x_iretE (ua σ 1 (upd (σ 1) 1 ((σ 1) 1 + 1))) hC hr hkL hH (by exact rfBk (cI_f g1) (by decide)) (congrArg (fun z_ : Nat → Int32 => WM G ad (ua σ 1 z_)) (by exact rfzk (cI_f g1) (by decide) : (rfz (σ 1) (exC p w 4)) = (upd (σ 1) 1 ((σ 1) 1 + 1)))) dX12_worst_19
  · refine x_topE (y := (-2)) g3 ?_
    refine lv_istore_n (lv' := [(3, .int (-2)), (0, .ref (ad 0)), (1, .int p), (2, .int w)]) hx hb dX12_worst_6 rfl hl (by decide) rfl (fun ls hl => ?_)
    refine lv_iload_n hx hb dX12_worst_7 rfl (lv_at hl 0 rfl) ?_
    refine lv_if_eq (tgt := 20) hx hb dX12_worst_8 (by decide) (fun c8 => ?_) (fun c8 => ?_)
    · exact absurd c8 (by decide)
    refine lv_ldc (v := 1000000000) hx hb hC.2.2.2.1 (hC.2.2.2.2 _ wd_941) dX12_worst_11 ?_
    refine lv_aload_n hx hb dX12_worst_13 rfl (lv_at hl 1 rfl) ?_
    refine lv_iload_n hx hb dX12_worst_14 rfl (lv_at hl 0 rfl) ?_
    refine x_callVA (ws' := WM G ad (ua σ 1 (upd (σ 1) 2 ((σ 1) 2 + 1)))) (As := [.int (-2)]) (rest := [.int 1000000000]) (st' := [.int (-2), .int 1000000000]) hC hK hZ hA hl.1 hH (k_X12_refuse l G ad σ (-2) 2 rfl (by decide)) lk_X12_47 rfl 0 11 rfl rfl rfl ⟨Nat.le_of_ble_eq_true rfl, Nat.le_of_ble_eq_true rfl⟩ ⟨Nat.le_refl _, Nat.le_refl _⟩ (Nat.le_of_ble_eq_true rfl) rfl dX12_worst_15 (fun H locs hH => ?_)
    refine lv_isub hx hb dX12_worst_18 ?_
    exact x_iretE (ua σ 1 (upd (σ 1) 2 ((σ 1) 2 + 1))) hC hr hkL hH (by exact rfBk ((cI_t g1).trans (cI_f g2)) (by decide)) (congrArg (fun z_ : Nat → Int32 => WM G ad (ua σ 1 z_)) (by exact rfzk ((cI_t g1).trans (cI_f g2)) (by decide) : (rfz (σ 1) (exC p w 4)) = (upd (σ 1) 2 ((σ 1) 2 + 1)))) dX12_worst_19
  · refine x_topE (y := 0) g3 ?_
    refine lv_istore_n (lv' := [(3, .int 0), (0, .ref (ad 0)), (1, .int p), (2, .int w)]) hx hb dX12_worst_6 rfl hl (by decide) rfl (fun ls hl => ?_)
    refine lv_iload_n hx hb dX12_worst_7 rfl (lv_at hl 0 rfl) ?_
    refine lv_if_eq (tgt := 20) hx hb dX12_worst_8 (by decide) (fun c8 => ?_) (fun c8 => ?_)
    rotate_left
    · exact absurd c8 (by decide)
    refine lv_aload_n hx hb dX12_worst_20 rfl (lv_at hl 1 rfl) ?_
    refine lv_iload_n hx hb dX12_worst_21 rfl (lv_at hl 2 rfl) ?_
    refine x_callVAE (wg := fun z22 => WM G ad (ua σ 0 (upd (upd (upd (upd (σ 0) 9 (z22 0 9)) 10 (z22 0 10)) 11 (z22 0 11)) 12 (z22 0 12)))) (As := [.int p]) (rest := []) (st' := [.int (nI (wEA β p))]) hC hK hZ hA hl.1 hH (k_X12_worstEnd l G ad σ p β hR) lk_X12_152 rfl 0 11 rfl rfl rfl ⟨Nat.le_of_ble_eq_true rfl, Nat.le_of_ble_eq_true rfl⟩ ⟨Nat.le_refl _, Nat.le_refl _⟩ (Nat.le_of_ble_eq_true rfl) rfl dX12_worst_22 (fun z22 H locs hH => ?_)
    refine lv_istore (lv' := [(4, .int (nI (wEA β p))), (3, .int 0), (0, .ref (ad 0)), (1, .int p), (2, .int w)]) hx hb dX12_worst_25 hl (by decide) rfl (fun ls hl => ?_)
    refine lv_iload_n hx hb dX12_worst_27 rfl (lv_at hl 4 rfl) ?_
    refine lv_if_ne (tgt := 41) hx hb dX12_worst_28 (by decide) (fun c28 => ?_) (fun c28 => ?_)
    · refine lv_iload hx hb dX12_worst_41 (lv_at hl 0 rfl) ?_
      exact x_iretE (ua σ 0 (upd (upd (upd (upd (σ 0) 9 (z22 0 9)) 10 (z22 0 10)) 11 (z22 0 11)) 12 (z22 0 12))) hC hr hkL hH (by (refine (rfB0 ((cI_t g1).trans (cI_t g2))).trans ?_); first | exact if_pos c28 | exact if_neg c28) ((congrArg (fun z_ : Nat → Int32 => WM G ad (ua (ua σ 0 (upd (upd (upd (upd (σ 0) 9 (z22 0 9)) 10 (z22 0 10)) 11 (z22 0 11)) 12 (z22 0 12))) 1 z_)) (by exact rfz0 ((cI_t g1).trans (cI_t g2)) : (rfz (σ 1) (exC p w 4)) = (σ 1))).trans (show WM G ad (ua (ua σ 0 (upd (upd (upd (upd (σ 0) 9 (z22 0 9)) 10 (z22 0 10)) 11 (z22 0 11)) 12 (z22 0 12))) 1 (σ 1)) = WM G ad (ua σ 0 (upd (upd (upd (upd (σ 0) 9 (z22 0 9)) 10 (z22 0 10)) 11 (z22 0 11)) 12 (z22 0 12))) from rfl)) dX12_worst_43
    · refine lv_aload_n hx hb dX12_worst_31 rfl (lv_at hl 2 rfl) ?_
      refine lv_iload_n hx hb dX12_worst_32 rfl (lv_at hl 3 rfl) ?_
      refine lv_iload hx hb dX12_worst_33 (lv_at hl 0 rfl) ?_
      refine x_callVAE (wg := fun z35 => WM G ad (ua σ 0 (upd (upd (upd (upd (σ 0) 9 (z35 0 9)) 10 (z35 0 10)) 11 (z35 0 11)) 12 (z35 0 12)))) (As := [.int p, .int (nI (wEA β p))]) (rest := []) (st' := [.int (purA β p (nI (wEA β p)))]) hC hK hZ hA hl.1 hH (k_X12_purseOf l G ad (ua σ 0 (upd (upd (upd (upd (σ 0) 9 (z22 0 9)) 10 (z22 0 10)) 11 (z22 0 11)) 12 (z22 0 12))) p (nI (wEA β p)) β hR) lk_X12_132 rfl 0 11 rfl rfl rfl ⟨Nat.le_of_ble_eq_true rfl, Nat.le_of_ble_eq_true rfl⟩ ⟨Nat.le_refl _, Nat.le_refl _⟩ (Nat.le_of_ble_eq_true rfl) rfl dX12_worst_35 (fun z35 H locs hH => ?_)
      refine lv_goto (tgt := 43) hx hb dX12_worst_38 (by decide) ?_
      exact x_iretE (ua σ 0 (upd (upd (upd (upd (σ 0) 9 (z35 0 9)) 10 (z35 0 10)) 11 (z35 0 11)) 12 (z35 0 12))) hC hr hkL hH (by (refine (rfB0 ((cI_t g1).trans (cI_t g2))).trans ?_); first | exact if_pos c28 | exact if_neg c28) ((congrArg (fun z_ : Nat → Int32 => WM G ad (ua (ua σ 0 (upd (upd (upd (upd (σ 0) 9 (z35 0 9)) 10 (z35 0 10)) 11 (z35 0 11)) 12 (z35 0 12))) 1 z_)) (by exact rfz0 ((cI_t g1).trans (cI_t g2)) : (rfz (σ 1) (exC p w 4)) = (σ 1))).trans (show WM G ad (ua (ua σ 0 (upd (upd (upd (upd (σ 0) 9 (z35 0 9)) 10 (z35 0 10)) 11 (z35 0 11)) 12 (z35 0 12))) 1 (σ 1)) = WM G ad (ua σ 0 (upd (upd (upd (upd (σ 0) 9 (z35 0 9)) 10 (z35 0 10)) 11 (z35 0 11)) 12 (z35 0 12))) from rfl)) dX12_worst_43
set_option maxHeartbeats 4000000 in
set_option maxRecDepth 100000 in
theorem k_X12_best (l : Launch) (G : GP) (ad : Nat → Nat) (σ : Nat → Nat → Int32) (p : Int32) (w : Int32) (β : Bk) (hR : RB (σ 2) β) : CTE l G yX12_best cX12_best 5 (some .int) 6 [.ref (ad 0), .int p, .int w] (WM G ad σ) (some (.int (rfB (exC p w 4) (if w = 0 then besV β p else nI (bEA β p))))) (fun z => WM G ad (ua (ua σ 0 (upd (upd (upd (upd (σ 0) 9 (z 0 9)) 10 (z 0 10)) 11 (z 0 11)) 12 (z 0 12))) 1 (rfz (σ 1) (exC p w 4)))) := by
  refine x_methE "BetsOnBetsModel" rfl (by decide +kernel) (fun z => by rfl) (Nat.le_of_ble_eq_true rfl) ?_
  intro pP eE sS mM args below meth cC A ls hC hr hkL hK hZ hA hH hl
  have hx := hC.1
  have hb := hC.2.1
  have hl : lv_has ls 5 [(0, .ref (ad 0)), (1, .int p), (2, .int w)] := hl
  have hh4 := hR.2.2.1
  have hk6 := hR.2.2.2.1
  have pwh := pw4 hh4
  have pwk := pw6 hk6
  refine lv_aload_n hx hb dX12_best_0 rfl (lv_at hl 0 rfl) ?_
  refine lv_iload_n hx hb dX12_best_1 rfl (lv_at hl 1 rfl) ?_
  refine lv_iload_n hx hb dX12_best_2 rfl (lv_at hl 2 rfl) ?_
  refine x_callVA (ws' := WM G ad σ) (As := [.int p, .int w]) (rest := []) (st' := [.int (wrongF p w)]) hC hK hZ hA hl.1 hH (k_X12_wrong l G ad σ p w) lk_X12_149 rfl 0 11 rfl rfl rfl ⟨Nat.le_of_ble_eq_true rfl, Nat.le_of_ble_eq_true rfl⟩ ⟨Nat.le_refl _, Nat.le_refl _⟩ (Nat.le_of_ble_eq_true rfl) rfl dX12_best_3 (fun H locs hH => ?_)
  rcases wrongF_cases p w with ⟨g1, g2⟩ | ⟨g1, g2, g3⟩ | ⟨g1, g2, g3⟩
  · refine x_topE (y := (-1)) g2 ?_
    refine lv_istore_n (lv' := [(3, .int (-1)), (0, .ref (ad 0)), (1, .int p), (2, .int w)]) hx hb dX12_best_6 rfl hl (by decide) rfl (fun ls hl => ?_)
    refine lv_iload_n hx hb dX12_best_7 rfl (lv_at hl 0 rfl) ?_
    refine lv_if_eq (tgt := 20) hx hb dX12_best_8 (by decide) (fun c8 => ?_) (fun c8 => ?_)
    · exact absurd c8 (by decide)
    refine lv_ldc (v := 1000000000) hx hb hC.2.2.2.1 (hC.2.2.2.2 _ wd_941) dX12_best_11 ?_
    refine lv_aload_n hx hb dX12_best_13 rfl (lv_at hl 1 rfl) ?_
    refine lv_iload_n hx hb dX12_best_14 rfl (lv_at hl 0 rfl) ?_
    refine x_callVA (ws' := WM G ad (ua σ 1 (upd (σ 1) 1 ((σ 1) 1 + 1)))) (As := [.int (-1)]) (rest := [.int 1000000000]) (st' := [.int (-1), .int 1000000000]) hC hK hZ hA hl.1 hH (k_X12_refuse l G ad σ (-1) 1 rfl (by decide)) lk_X12_47 rfl 0 11 rfl rfl rfl ⟨Nat.le_of_ble_eq_true rfl, Nat.le_of_ble_eq_true rfl⟩ ⟨Nat.le_refl _, Nat.le_refl _⟩ (Nat.le_of_ble_eq_true rfl) rfl dX12_best_15 (fun H locs hH => ?_)
    refine lv_isub hx hb dX12_best_18 ?_
    exact x_iretE (ua σ 1 (upd (σ 1) 1 ((σ 1) 1 + 1))) hC hr hkL hH (by exact rfBk (cI_f g1) (by decide)) (congrArg (fun z_ : Nat → Int32 => WM G ad (ua σ 1 z_)) (by exact rfzk (cI_f g1) (by decide) : (rfz (σ 1) (exC p w 4)) = (upd (σ 1) 1 ((σ 1) 1 + 1)))) dX12_best_19
  · refine x_topE (y := (-2)) g3 ?_
    refine lv_istore_n (lv' := [(3, .int (-2)), (0, .ref (ad 0)), (1, .int p), (2, .int w)]) hx hb dX12_best_6 rfl hl (by decide) rfl (fun ls hl => ?_)
    refine lv_iload_n hx hb dX12_best_7 rfl (lv_at hl 0 rfl) ?_
    refine lv_if_eq (tgt := 20) hx hb dX12_best_8 (by decide) (fun c8 => ?_) (fun c8 => ?_)
    · exact absurd c8 (by decide)
    refine lv_ldc (v := 1000000000) hx hb hC.2.2.2.1 (hC.2.2.2.2 _ wd_941) dX12_best_11 ?_
    refine lv_aload_n hx hb dX12_best_13 rfl (lv_at hl 1 rfl) ?_
    refine lv_iload_n hx hb dX12_best_14 rfl (lv_at hl 0 rfl) ?_
    refine x_callVA (ws' := WM G ad (ua σ 1 (upd (σ 1) 2 ((σ 1) 2 + 1)))) (As := [.int (-2)]) (rest := [.int 1000000000]) (st' := [.int (-2), .int 1000000000]) hC hK hZ hA hl.1 hH (k_X12_refuse l G ad σ (-2) 2 rfl (by decide)) lk_X12_47 rfl 0 11 rfl rfl rfl ⟨Nat.le_of_ble_eq_true rfl, Nat.le_of_ble_eq_true rfl⟩ ⟨Nat.le_refl _, Nat.le_refl _⟩ (Nat.le_of_ble_eq_true rfl) rfl dX12_best_15 (fun H locs hH => ?_)
    refine lv_isub hx hb dX12_best_18 ?_
    exact x_iretE (ua σ 1 (upd (σ 1) 2 ((σ 1) 2 + 1))) hC hr hkL hH (by exact rfBk ((cI_t g1).trans (cI_f g2)) (by decide)) (congrArg (fun z_ : Nat → Int32 => WM G ad (ua σ 1 z_)) (by exact rfzk ((cI_t g1).trans (cI_f g2)) (by decide) : (rfz (σ 1) (exC p w 4)) = (upd (σ 1) 2 ((σ 1) 2 + 1)))) dX12_best_19
  · refine x_topE (y := 0) g3 ?_
    refine lv_istore_n (lv' := [(3, .int 0), (0, .ref (ad 0)), (1, .int p), (2, .int w)]) hx hb dX12_best_6 rfl hl (by decide) rfl (fun ls hl => ?_)
    refine lv_iload_n hx hb dX12_best_7 rfl (lv_at hl 0 rfl) ?_
    refine lv_if_eq (tgt := 20) hx hb dX12_best_8 (by decide) (fun c8 => ?_) (fun c8 => ?_)
    rotate_left
    · exact absurd c8 (by decide)
    refine lv_aload_n hx hb dX12_best_20 rfl (lv_at hl 1 rfl) ?_
    refine lv_iload_n hx hb dX12_best_21 rfl (lv_at hl 2 rfl) ?_
    refine x_callVAE (wg := fun z22 => WM G ad (ua σ 0 (upd (upd (upd (upd (σ 0) 9 (z22 0 9)) 10 (z22 0 10)) 11 (z22 0 11)) 12 (z22 0 12)))) (As := [.int p]) (rest := []) (st' := [.int (nI (bEA β p))]) hC hK hZ hA hl.1 hH (k_X12_bestEnd l G ad σ p β hR) lk_X12_155 rfl 0 11 rfl rfl rfl ⟨Nat.le_of_ble_eq_true rfl, Nat.le_of_ble_eq_true rfl⟩ ⟨Nat.le_refl _, Nat.le_refl _⟩ (Nat.le_of_ble_eq_true rfl) rfl dX12_best_22 (fun z22 H locs hH => ?_)
    refine lv_istore (lv' := [(4, .int (nI (bEA β p))), (3, .int 0), (0, .ref (ad 0)), (1, .int p), (2, .int w)]) hx hb dX12_best_25 hl (by decide) rfl (fun ls hl => ?_)
    refine lv_iload_n hx hb dX12_best_27 rfl (lv_at hl 4 rfl) ?_
    refine lv_if_ne (tgt := 41) hx hb dX12_best_28 (by decide) (fun c28 => ?_) (fun c28 => ?_)
    · refine lv_iload hx hb dX12_best_41 (lv_at hl 0 rfl) ?_
      exact x_iretE (ua σ 0 (upd (upd (upd (upd (σ 0) 9 (z22 0 9)) 10 (z22 0 10)) 11 (z22 0 11)) 12 (z22 0 12))) hC hr hkL hH (by (refine (rfB0 ((cI_t g1).trans (cI_t g2))).trans ?_); first | exact if_pos c28 | exact if_neg c28) ((congrArg (fun z_ : Nat → Int32 => WM G ad (ua (ua σ 0 (upd (upd (upd (upd (σ 0) 9 (z22 0 9)) 10 (z22 0 10)) 11 (z22 0 11)) 12 (z22 0 12))) 1 z_)) (by exact rfz0 ((cI_t g1).trans (cI_t g2)) : (rfz (σ 1) (exC p w 4)) = (σ 1))).trans (show WM G ad (ua (ua σ 0 (upd (upd (upd (upd (σ 0) 9 (z22 0 9)) 10 (z22 0 10)) 11 (z22 0 11)) 12 (z22 0 12))) 1 (σ 1)) = WM G ad (ua σ 0 (upd (upd (upd (upd (σ 0) 9 (z22 0 9)) 10 (z22 0 10)) 11 (z22 0 11)) 12 (z22 0 12))) from rfl)) dX12_best_43
    · refine lv_aload_n hx hb dX12_best_31 rfl (lv_at hl 2 rfl) ?_
      refine lv_iload_n hx hb dX12_best_32 rfl (lv_at hl 3 rfl) ?_
      refine lv_iload hx hb dX12_best_33 (lv_at hl 0 rfl) ?_
      refine x_callVAE (wg := fun z35 => WM G ad (ua σ 0 (upd (upd (upd (upd (σ 0) 9 (z35 0 9)) 10 (z35 0 10)) 11 (z35 0 11)) 12 (z35 0 12)))) (As := [.int p, .int (nI (bEA β p))]) (rest := []) (st' := [.int (purA β p (nI (bEA β p)))]) hC hK hZ hA hl.1 hH (k_X12_purseOf l G ad (ua σ 0 (upd (upd (upd (upd (σ 0) 9 (z22 0 9)) 10 (z22 0 10)) 11 (z22 0 11)) 12 (z22 0 12))) p (nI (bEA β p)) β hR) lk_X12_132 rfl 0 11 rfl rfl rfl ⟨Nat.le_of_ble_eq_true rfl, Nat.le_of_ble_eq_true rfl⟩ ⟨Nat.le_refl _, Nat.le_refl _⟩ (Nat.le_of_ble_eq_true rfl) rfl dX12_best_35 (fun z35 H locs hH => ?_)
      refine lv_goto (tgt := 43) hx hb dX12_best_38 (by decide) ?_
      exact x_iretE (ua σ 0 (upd (upd (upd (upd (σ 0) 9 (z35 0 9)) 10 (z35 0 10)) 11 (z35 0 11)) 12 (z35 0 12))) hC hr hkL hH (by (refine (rfB0 ((cI_t g1).trans (cI_t g2))).trans ?_); first | exact if_pos c28 | exact if_neg c28) ((congrArg (fun z_ : Nat → Int32 => WM G ad (ua (ua σ 0 (upd (upd (upd (upd (σ 0) 9 (z35 0 9)) 10 (z35 0 10)) 11 (z35 0 11)) 12 (z35 0 12))) 1 z_)) (by exact rfz0 ((cI_t g1).trans (cI_t g2)) : (rfz (σ 1) (exC p w 4)) = (σ 1))).trans (show WM G ad (ua (ua σ 0 (upd (upd (upd (upd (σ 0) 9 (z35 0 9)) 10 (z35 0 10)) 11 (z35 0 11)) 12 (z35 0 12))) 1 (σ 1)) = WM G ad (ua σ 0 (upd (upd (upd (upd (σ 0) 9 (z35 0 9)) 10 (z35 0 10)) 11 (z35 0 11)) 12 (z35 0 12))) from rfl)) dX12_best_43
set_option maxHeartbeats 4000000 in
set_option maxRecDepth 100000 in
theorem k_X12_ways (l : Launch) (G : GP) (ad : Nat → Nat) (σ : Nat → Nat → Int32) (e : Int32) (w : Int32) (β : Bk) (hR : RB (σ 2) β) : CTE l G yX12_ways cX12_ways 4 (some .int) 4 [.ref (ad 0), .int e, .int w] (WM G ad σ) (some (.int (rfA (exC e w (2 ^ bH β)) (if w = 0 then (fwA β e).1 else (fwA β e).2.1)))) (fun z => WM G ad (ua (ua σ 0 (upd (upd (upd (upd (σ 0) 9 (z 0 9)) 10 (z 0 10)) 11 (z 0 11)) 12 (z 0 12))) 1 (rfz (σ 1) (exC e w (2 ^ bH β))))) := by
  refine x_methE "BetsOnBetsModel" rfl (by decide +kernel) (fun z => by rfl) (Nat.le_of_ble_eq_true rfl) ?_
  intro pP eE sS mM args below meth cC A ls hC hr hkL hK hZ hA hH hl
  have hx := hC.1
  have hb := hC.2.1
  have hl : lv_has ls 4 [(0, .ref (ad 0)), (1, .int e), (2, .int w)] := hl
  have hh4 := hR.2.2.1
  have hk6 := hR.2.2.2.1
  have pwh := pw4 hh4
  have pwk := pw6 hk6
  refine lv_aload_n hx hb dX12_ways_0 rfl (lv_at hl 0 rfl) ?_
  refine lv_iload_n hx hb dX12_ways_1 rfl (lv_at hl 1 rfl) ?_
  refine x_callVA (ws' := WM G ad σ) (As := [.int e]) (rest := []) (st' := [.int (bI (0 ≤ e ∧ e < nI (2 ^ bH β)))]) hC hK hZ hA hl.1 hH (k_X12_isEnd l G ad σ e β hR) lk_X12_122 rfl 0 11 rfl rfl rfl ⟨Nat.le_of_ble_eq_true rfl, Nat.le_of_ble_eq_true rfl⟩ ⟨Nat.le_refl _, Nat.le_refl _⟩ (Nat.le_of_ble_eq_true rfl) rfl dX12_ways_2 (fun H locs hH => ?_)
  refine x_bne (tgt := 12) hC dX12_ways_5 (by decide) (fun c5 => ?_) (fun c5 => ?_)
  · refine lv_iload_n hx hb dX12_ways_12 rfl (lv_at hl 2 rfl) ?_
    refine lv_iconst (v := 2) hx hb dX12_ways_13 (by decide) ?_
    refine x_callS (ws' := WM G ad σ) (As := [.int w, .int 2]) (rest := []) (st' := [.int (bI (0 ≤ w ∧ w < 2))]) hC hK hZ hA hl.1 hH (k_X12_isIn l G (pk ad []) (pk σ []) w 2) lk_X12_31 [] rfl rfl rfl rfl ⟨Nat.le_of_ble_eq_true rfl, Nat.le_of_ble_eq_true rfl⟩ ⟨Nat.le_refl _, Nat.le_refl _⟩ (Nat.le_of_ble_eq_true rfl) rfl dX12_ways_14 (fun H locs hH => ?_)
    refine x_beq (tgt := 24) hC dX12_ways_17 (by decide) (fun c17 => ?_) (fun c17 => ?_)
    · refine lv_bipush (v := (-2)) hx hb dX12_ways_24 (by decide) ?_
      refine lv_istore_n (lv' := [(3, .int (-2)), (0, .ref (ad 0)), (1, .int e), (2, .int w)]) hx hb dX12_ways_26 rfl hl (by decide) rfl (fun ls hl => ?_)
      refine lv_iload_n hx hb dX12_ways_27 rfl (lv_at hl 0 rfl) ?_
      refine lv_if_eq (tgt := 37) hx hb dX12_ways_28 (by decide) (fun c28 => ?_) (fun c28 => ?_)
      · exact absurd c28 (by decide)
      refine lv_aload_n hx hb dX12_ways_31 rfl (lv_at hl 1 rfl) ?_
      refine lv_iload_n hx hb dX12_ways_32 rfl (lv_at hl 0 rfl) ?_
      refine x_callVA (ws' := WM G ad (ua σ 1 (upd (σ 1) 2 ((σ 1) 2 + 1)))) (As := [.int (-2)]) (rest := []) (st' := [.int (-2)]) hC hK hZ hA hl.1 hH (k_X12_refuse l G ad σ (-2) 2 rfl (by decide)) lk_X12_47 rfl 0 11 rfl rfl rfl ⟨Nat.le_of_ble_eq_true rfl, Nat.le_of_ble_eq_true rfl⟩ ⟨Nat.le_refl _, Nat.le_refl _⟩ (Nat.le_of_ble_eq_true rfl) rfl dX12_ways_33 (fun H locs hH => ?_)
      exact x_iretE (ua σ 1 (upd (σ 1) 2 ((σ 1) 2 + 1))) hC hr hkL hH (by exact rfAk ((cI_t c5).trans (cI_f c17)) (by decide)) (congrArg (fun z_ : Nat → Int32 => WM G ad (ua σ 1 z_)) (by exact rfzk ((cI_t c5).trans (cI_f c17)) (by decide) : (rfz (σ 1) (exC e w (2 ^ bH β))) = (upd (σ 1) 2 ((σ 1) 2 + 1)))) dX12_ways_36
    · refine lv_iconst (v := 0) hx hb dX12_ways_20 (by decide) ?_
      refine lv_goto (tgt := 26) hx hb dX12_ways_21 (by decide) ?_
      refine lv_istore_n (lv' := [(3, .int 0), (0, .ref (ad 0)), (1, .int e), (2, .int w)]) hx hb dX12_ways_26 rfl hl (by decide) rfl (fun ls hl => ?_)
      refine lv_iload_n hx hb dX12_ways_27 rfl (lv_at hl 0 rfl) ?_
      refine lv_if_eq (tgt := 37) hx hb dX12_ways_28 (by decide) (fun c28 => ?_) (fun c28 => ?_)
      rotate_left
      · exact absurd c28 (by decide)
      refine lv_aload_n hx hb dX12_ways_37 rfl (lv_at hl 1 rfl) ?_
      refine lv_iload_n hx hb dX12_ways_38 rfl (lv_at hl 2 rfl) ?_
      refine x_callVA (ws' := WM G ad (ua σ 0 (upd (upd (upd (upd (σ 0) 9 ((fwA β e).1)) 10 ((fwA β e).2.1)) 11 ((fwA β e).2.2.1)) 12 ((fwA β e).2.2.2)))) (As := [.int e]) (rest := []) (st' := []) hC hK hZ hA hl.1 hH (k_X12_findsWays l G ad σ e β hR) lk_X12_125 rfl 0 11 rfl rfl rfl ⟨Nat.le_of_ble_eq_true rfl, Nat.le_of_ble_eq_true rfl⟩ ⟨Nat.le_refl _, Nat.le_refl _⟩ (Nat.le_of_ble_eq_true rfl) rfl dX12_ways_39 (fun H locs hH => ?_)
      refine lv_iload_n hx hb dX12_ways_42 rfl (lv_at hl 3 rfl) ?_
      refine lv_if_ne (tgt := 53) hx hb dX12_ways_43 (by decide) (fun c43 => ?_) (fun c43 => ?_)
      · refine lv_aload_n hx hb dX12_ways_53 rfl (lv_at hl 1 rfl) ?_
        refine gf_X12_110 (v := .int ((fwA β e).2.1)) hC hK hH 0 rfl rfl dX12_ways_54 ?_
        exact x_iretE (ua σ 0 (upd (upd (upd (upd (σ 0) 9 ((fwA β e).1)) 10 ((fwA β e).2.1)) 11 ((fwA β e).2.2.1)) 12 ((fwA β e).2.2.2))) hC hr hkL hH (by (refine (rfA0 ((cI_t c5).trans (cI_t c17))).trans ?_); first | exact if_pos c43 | exact if_neg c43) ((congrArg (fun z_ : Nat → Int32 => WM G ad (ua (ua σ 0 (upd (upd (upd (upd (σ 0) 9 ((fwA β e).1)) 10 ((fwA β e).2.1)) 11 ((fwA β e).2.2.1)) 12 ((fwA β e).2.2.2))) 1 z_)) (by exact rfz0 ((cI_t c5).trans (cI_t c17)) : (rfz (σ 1) (exC e w (2 ^ bH β))) = (σ 1))).trans (show WM G ad (ua (ua σ 0 (upd (upd (upd (upd (σ 0) 9 ((fwA β e).1)) 10 ((fwA β e).2.1)) 11 ((fwA β e).2.2.1)) 12 ((fwA β e).2.2.2))) 1 (σ 1)) = WM G ad (ua σ 0 (upd (upd (upd (upd (σ 0) 9 ((fwA β e).1)) 10 ((fwA β e).2.1)) 11 ((fwA β e).2.2.1)) 12 ((fwA β e).2.2.2))) from rfl)) dX12_ways_57
      · refine lv_aload_n hx hb dX12_ways_46 rfl (lv_at hl 1 rfl) ?_
        refine gf_X12_107 (v := .int ((fwA β e).1)) hC hK hH 0 rfl rfl dX12_ways_47 ?_
        refine lv_goto (tgt := 57) hx hb dX12_ways_50 (by decide) ?_
        exact x_iretE (ua σ 0 (upd (upd (upd (upd (σ 0) 9 ((fwA β e).1)) 10 ((fwA β e).2.1)) 11 ((fwA β e).2.2.1)) 12 ((fwA β e).2.2.2))) hC hr hkL hH (by (refine (rfA0 ((cI_t c5).trans (cI_t c17))).trans ?_); first | exact if_pos c43 | exact if_neg c43) ((congrArg (fun z_ : Nat → Int32 => WM G ad (ua (ua σ 0 (upd (upd (upd (upd (σ 0) 9 ((fwA β e).1)) 10 ((fwA β e).2.1)) 11 ((fwA β e).2.2.1)) 12 ((fwA β e).2.2.2))) 1 z_)) (by exact rfz0 ((cI_t c5).trans (cI_t c17)) : (rfz (σ 1) (exC e w (2 ^ bH β))) = (σ 1))).trans (show WM G ad (ua (ua σ 0 (upd (upd (upd (upd (σ 0) 9 ((fwA β e).1)) 10 ((fwA β e).2.1)) 11 ((fwA β e).2.2.1)) 12 ((fwA β e).2.2.2))) 1 (σ 1)) = WM G ad (ua σ 0 (upd (upd (upd (upd (σ 0) 9 ((fwA β e).1)) 10 ((fwA β e).2.1)) 11 ((fwA β e).2.2.1)) 12 ((fwA β e).2.2.2))) from rfl)) dX12_ways_57
  · refine lv_iconst (v := (-1)) hx hb dX12_ways_8 (by decide) ?_
    refine lv_goto (tgt := 26) hx hb dX12_ways_9 (by decide) ?_
    refine lv_istore_n (lv' := [(3, .int (-1)), (0, .ref (ad 0)), (1, .int e), (2, .int w)]) hx hb dX12_ways_26 rfl hl (by decide) rfl (fun ls hl => ?_)
    refine lv_iload_n hx hb dX12_ways_27 rfl (lv_at hl 0 rfl) ?_
    refine lv_if_eq (tgt := 37) hx hb dX12_ways_28 (by decide) (fun c28 => ?_) (fun c28 => ?_)
    · exact absurd c28 (by decide)
    refine lv_aload_n hx hb dX12_ways_31 rfl (lv_at hl 1 rfl) ?_
    refine lv_iload_n hx hb dX12_ways_32 rfl (lv_at hl 0 rfl) ?_
    refine x_callVA (ws' := WM G ad (ua σ 1 (upd (σ 1) 1 ((σ 1) 1 + 1)))) (As := [.int (-1)]) (rest := []) (st' := [.int (-1)]) hC hK hZ hA hl.1 hH (k_X12_refuse l G ad σ (-1) 1 rfl (by decide)) lk_X12_47 rfl 0 11 rfl rfl rfl ⟨Nat.le_of_ble_eq_true rfl, Nat.le_of_ble_eq_true rfl⟩ ⟨Nat.le_refl _, Nat.le_refl _⟩ (Nat.le_of_ble_eq_true rfl) rfl dX12_ways_33 (fun H locs hH => ?_)
    exact x_iretE (ua σ 1 (upd (σ 1) 1 ((σ 1) 1 + 1))) hC hr hkL hH (by exact rfAk (cI_f c5) (by decide)) (congrArg (fun z_ : Nat → Int32 => WM G ad (ua σ 1 z_)) (by exact rfzk (cI_f c5) (by decide) : (rfz (σ 1) (exC e w (2 ^ bH β))) = (upd (σ 1) 1 ((σ 1) 1 + 1)))) dX12_ways_36
set_option maxHeartbeats 4000000 in
set_option maxRecDepth 100000 in
theorem k_X12_standing (l : Launch) (G : GP) (ad : Nat → Nat) (σ : Nat → Nat → Int32) (b : Int32) (e : Int32) (β : Bk) (hR : RB (σ 2) β) : CTE l G yX12_standing cX12_standing 3 (some .int) 4 [.ref (ad 0), .int b, .int e] (WM G ad σ) (some (.int (rfA (ebC b (bK β) e (2 ^ bH β)) (stP β e (b).toNatClampNeg)))) (fun z => WM G ad (ua (ua σ 0 (upd (upd (upd (upd (σ 0) 9 (z 0 9)) 10 (z 0 10)) 11 (z 0 11)) 12 (z 0 12))) 1 (rfz (σ 1) (ebC b (bK β) e (2 ^ bH β))))) := by
  refine x_methE "BetsOnBetsModel" rfl (by decide +kernel) (fun z => by rfl) (Nat.le_of_ble_eq_true rfl) ?_
  intro pP eE sS mM args below meth cC A ls hC hr hkL hK hZ hA hH hl
  have hx := hC.1
  have hb := hC.2.1
  have hl : lv_has ls 3 [(0, .ref (ad 0)), (1, .int b), (2, .int e)] := hl
  have hh4 := hR.2.2.1
  have hk6 := hR.2.2.2.1
  have pwh := pw4 hh4
  have pwk := pw6 hk6
  refine lv_aload_n hx hb dX12_standing_0 rfl (lv_at hl 0 rfl) ?_
  refine lv_iload_n hx hb dX12_standing_1 rfl (lv_at hl 1 rfl) ?_
  refine x_callVA (ws' := WM G ad σ) (As := [.int b]) (rest := []) (st' := [.int (bI (0 ≤ b ∧ b < nI (bK β)))]) hC hK hZ hA hl.1 hH (k_X12_isBet l G ad σ b β hR) lk_X12_93 rfl 0 11 rfl rfl rfl ⟨Nat.le_of_ble_eq_true rfl, Nat.le_of_ble_eq_true rfl⟩ ⟨Nat.le_refl _, Nat.le_refl _⟩ (Nat.le_of_ble_eq_true rfl) rfl dX12_standing_2 (fun H locs hH => ?_)
  refine x_beq (tgt := 16) hC dX12_standing_5 (by decide) (fun c5 => ?_) (fun c5 => ?_)
  · refine lv_aload_n hx hb dX12_standing_16 rfl (lv_at hl 0 rfl) ?_
    refine lv_iconst (v := (-1)) hx hb dX12_standing_17 (by decide) ?_
    refine x_callVA (ws' := WM G ad (ua σ 1 (upd (σ 1) 1 ((σ 1) 1 + 1)))) (As := [.int (-1)]) (rest := []) (st' := [.int (-1)]) hC hK hZ hA hl.1 hH (k_X12_refuse l G ad σ (-1) 1 rfl (by decide)) lk_X12_47 rfl 0 11 rfl rfl rfl ⟨Nat.le_of_ble_eq_true rfl, Nat.le_of_ble_eq_true rfl⟩ ⟨Nat.le_refl _, Nat.le_refl _⟩ (Nat.le_of_ble_eq_true rfl) rfl dX12_standing_18 (fun H locs hH => ?_)
    exact x_iretE (ua σ 1 (upd (σ 1) 1 ((σ 1) 1 + 1))) hC hr hkL hH (by first | exact rfAk (cI_f c5) (by decide) | exact rfAk ((cI_t c5).trans (cI_f c13)) (by decide)) (congrArg (fun z_ : Nat → Int32 => WM G ad (ua σ 1 z_)) (by first | exact rfzk (cI_f c5) (by decide) | exact rfzk ((cI_t c5).trans (cI_f c13)) (by decide) : (rfz (σ 1) (ebC b (bK β) e (2 ^ bH β))) = (upd (σ 1) 1 ((σ 1) 1 + 1)))) dX12_standing_21
  · refine lv_aload_n hx hb dX12_standing_8 rfl (lv_at hl 0 rfl) ?_
    refine lv_iload_n hx hb dX12_standing_9 rfl (lv_at hl 2 rfl) ?_
    refine x_callVA (ws' := WM G ad σ) (As := [.int e]) (rest := []) (st' := [.int (bI (0 ≤ e ∧ e < nI (2 ^ bH β)))]) hC hK hZ hA hl.1 hH (k_X12_isEnd l G ad σ e β hR) lk_X12_122 rfl 0 11 rfl rfl rfl ⟨Nat.le_of_ble_eq_true rfl, Nat.le_of_ble_eq_true rfl⟩ ⟨Nat.le_refl _, Nat.le_refl _⟩ (Nat.le_of_ble_eq_true rfl) rfl dX12_standing_10 (fun H locs hH => ?_)
    refine x_bne (tgt := 22) hC dX12_standing_13 (by decide) (fun c13 => ?_) (fun c13 => ?_)
    · obtain ⟨j_, hj_, ev_⟩ := inb_of (by omega) c5
      refine lv_aload_n hx hb dX12_standing_22 rfl (lv_at hl 0 rfl) ?_
      refine lv_iload_n hx hb dX12_standing_23 rfl (lv_at hl 2 rfl) ?_
      refine x_callVA (ws' := WM G ad (ua σ 0 (upd (upd (upd (upd (σ 0) 9 ((fwA β e).1)) 10 ((fwA β e).2.1)) 11 ((fwA β e).2.2.1)) 12 ((fwA β e).2.2.2)))) (As := [.int e]) (rest := []) (st' := []) hC hK hZ hA hl.1 hH (k_X12_findsWays l G ad σ e β hR) lk_X12_125 rfl 0 11 rfl rfl rfl ⟨Nat.le_of_ble_eq_true rfl, Nat.le_of_ble_eq_true rfl⟩ ⟨Nat.le_refl _, Nat.le_refl _⟩ (Nat.le_of_ble_eq_true rfl) rfl dX12_standing_24 (fun H locs hH => ?_)
      refine lv_aload_n hx hb dX12_standing_27 rfl (lv_at hl 0 rfl) ?_
      refine lv_iload_n hx hb dX12_standing_28 rfl (lv_at hl 1 rfl) ?_
      refine x_callVA (ws' := WM G ad (ua σ 0 (upd (upd (upd (upd (σ 0) 9 ((fwA β e).1)) 10 ((fwA β e).2.1)) 11 ((fwA β e).2.2.1)) 12 ((fwA β e).2.2.2)))) (As := [.int b]) (rest := []) (st' := [.int (standF (fwA β e).1 (fwA β e).2.2.2 (fwA β e).2.2.1 b)]) hC hK hZ hA hl.1 hH (k_X12_standingOf l G ad (ua σ 0 (upd (upd (upd (upd (σ 0) 9 ((fwA β e).1)) 10 ((fwA β e).2.1)) 11 ((fwA β e).2.2.1)) 12 ((fwA β e).2.2.2))) b) lk_X12_129 rfl 0 11 rfl rfl rfl ⟨Nat.le_of_ble_eq_true rfl, Nat.le_of_ble_eq_true rfl⟩ ⟨Nat.le_refl _, Nat.le_refl _⟩ (Nat.le_of_ble_eq_true rfl) rfl dX12_standing_29 (fun H locs hH => ?_)
      exact x_iretE (ua σ 0 (upd (upd (upd (upd (σ 0) 9 ((fwA β e).1)) 10 ((fwA β e).2.1)) 11 ((fwA β e).2.2.1)) 12 ((fwA β e).2.2.2))) hC hr hkL hH (by (refine (rfA0 ((cI_t c5).trans (cI_t c13))).trans ?_); rw [ev_, nI_clamp (by omega)]; rfl) ((congrArg (fun z_ : Nat → Int32 => WM G ad (ua (ua σ 0 (upd (upd (upd (upd (σ 0) 9 ((fwA β e).1)) 10 ((fwA β e).2.1)) 11 ((fwA β e).2.2.1)) 12 ((fwA β e).2.2.2))) 1 z_)) (by exact rfz0 ((cI_t c5).trans (cI_t c13)) : (rfz (σ 1) (ebC b (bK β) e (2 ^ bH β))) = (σ 1))).trans (show WM G ad (ua (ua σ 0 (upd (upd (upd (upd (σ 0) 9 ((fwA β e).1)) 10 ((fwA β e).2.1)) 11 ((fwA β e).2.2.1)) 12 ((fwA β e).2.2.2))) 1 (σ 1)) = WM G ad (ua σ 0 (upd (upd (upd (upd (σ 0) 9 ((fwA β e).1)) 10 ((fwA β e).2.1)) 11 ((fwA β e).2.2.1)) 12 ((fwA β e).2.2.2))) from rfl)) dX12_standing_32
    · refine lv_aload_n hx hb dX12_standing_16 rfl (lv_at hl 0 rfl) ?_
      refine lv_iconst (v := (-1)) hx hb dX12_standing_17 (by decide) ?_
      refine x_callVA (ws' := WM G ad (ua σ 1 (upd (σ 1) 1 ((σ 1) 1 + 1)))) (As := [.int (-1)]) (rest := []) (st' := [.int (-1)]) hC hK hZ hA hl.1 hH (k_X12_refuse l G ad σ (-1) 1 rfl (by decide)) lk_X12_47 rfl 0 11 rfl rfl rfl ⟨Nat.le_of_ble_eq_true rfl, Nat.le_of_ble_eq_true rfl⟩ ⟨Nat.le_refl _, Nat.le_refl _⟩ (Nat.le_of_ble_eq_true rfl) rfl dX12_standing_18 (fun H locs hH => ?_)
      exact x_iretE (ua σ 1 (upd (σ 1) 1 ((σ 1) 1 + 1))) hC hr hkL hH (by first | exact rfAk (cI_f c5) (by decide) | exact rfAk ((cI_t c5).trans (cI_f c13)) (by decide)) (congrArg (fun z_ : Nat → Int32 => WM G ad (ua σ 1 z_)) (by first | exact rfzk (cI_f c5) (by decide) | exact rfzk ((cI_t c5).trans (cI_f c13)) (by decide) : (rfz (σ 1) (ebC b (bK β) e (2 ^ bH β))) = (upd (σ 1) 1 ((σ 1) 1 + 1)))) dX12_standing_21
set_option maxHeartbeats 4000000 in
set_option maxRecDepth 100000 in
theorem k_X12_purse (l : Launch) (G : GP) (ad : Nat → Nat) (σ : Nat → Nat → Int32) (p : Int32) (e : Int32) (β : Bk) (hR : RB (σ 2) β) : CTE l G yX12_purse cX12_purse 3 (some .int) 5 [.ref (ad 0), .int p, .int e] (WM G ad σ) (some (.int (rfB (ebC p 4 e (2 ^ bH β)) (purA β p e)))) (fun z => WM G ad (ua (ua σ 0 (upd (upd (upd (upd (σ 0) 9 (z 0 9)) 10 (z 0 10)) 11 (z 0 11)) 12 (z 0 12))) 1 (rfz (σ 1) (ebC p 4 e (2 ^ bH β))))) := by
  refine x_methE "BetsOnBetsModel" rfl (by decide +kernel) (fun z => by rfl) (Nat.le_of_ble_eq_true rfl) ?_
  intro pP eE sS mM args below meth cC A ls hC hr hkL hK hZ hA hH hl
  have hx := hC.1
  have hb := hC.2.1
  have hl : lv_has ls 3 [(0, .ref (ad 0)), (1, .int p), (2, .int e)] := hl
  have hh4 := hR.2.2.1
  have hk6 := hR.2.2.2.1
  have pwh := pw4 hh4
  have pwk := pw6 hk6
  refine lv_iload_n hx hb dX12_purse_0 rfl (lv_at hl 1 rfl) ?_
  refine x_callS (ws' := WM G ad σ) (As := [.int p]) (rest := []) (st' := [.int (bI (0 ≤ p ∧ p < 4))]) hC hK hZ hA hl.1 hH (k_X12_isPerson l G (pk ad []) (pk σ []) p) lk_X12_77 [] rfl rfl rfl rfl ⟨Nat.le_of_ble_eq_true rfl, Nat.le_of_ble_eq_true rfl⟩ ⟨Nat.le_refl _, Nat.le_refl _⟩ (Nat.le_of_ble_eq_true rfl) rfl dX12_purse_1 (fun H locs hH => ?_)
  refine x_beq (tgt := 24) hC dX12_purse_4 (by decide) (fun c4 => ?_) (fun c4 => ?_)
  · refine lv_ldc (v := 1000000000) hx hb hC.2.2.2.1 (hC.2.2.2.2 _ wd_941) dX12_purse_24 ?_
    refine lv_aload_n hx hb dX12_purse_26 rfl (lv_at hl 0 rfl) ?_
    refine lv_iconst (v := (-1)) hx hb dX12_purse_27 (by decide) ?_
    refine x_callVA (ws' := WM G ad (ua σ 1 (upd (σ 1) 1 ((σ 1) 1 + 1)))) (As := [.int (-1)]) (rest := [.int 1000000000]) (st' := [.int (-1), .int 1000000000]) hC hK hZ hA hl.1 hH (k_X12_refuse l G ad σ (-1) 1 rfl (by decide)) lk_X12_47 rfl 0 11 rfl rfl rfl ⟨Nat.le_of_ble_eq_true rfl, Nat.le_of_ble_eq_true rfl⟩ ⟨Nat.le_refl _, Nat.le_refl _⟩ (Nat.le_of_ble_eq_true rfl) rfl dX12_purse_28 (fun H locs hH => ?_)
    refine lv_isub hx hb dX12_purse_31 ?_
    exact x_iretE (ua σ 1 (upd (σ 1) 1 ((σ 1) 1 + 1))) hC hr hkL hH (by first | exact rfBk (cI_f c4) (by decide) | exact rfBk ((cI_t c4).trans (cI_f c12)) (by decide)) (congrArg (fun z_ : Nat → Int32 => WM G ad (ua σ 1 z_)) (by first | exact rfzk (cI_f c4) (by decide) | exact rfzk ((cI_t c4).trans (cI_f c12)) (by decide) : (rfz (σ 1) (ebC p 4 e (2 ^ bH β))) = (upd (σ 1) 1 ((σ 1) 1 + 1)))) dX12_purse_32
  · refine lv_aload_n hx hb dX12_purse_7 rfl (lv_at hl 0 rfl) ?_
    refine lv_iload_n hx hb dX12_purse_8 rfl (lv_at hl 2 rfl) ?_
    refine x_callVA (ws' := WM G ad σ) (As := [.int e]) (rest := []) (st' := [.int (bI (0 ≤ e ∧ e < nI (2 ^ bH β)))]) hC hK hZ hA hl.1 hH (k_X12_isEnd l G ad σ e β hR) lk_X12_122 rfl 0 11 rfl rfl rfl ⟨Nat.le_of_ble_eq_true rfl, Nat.le_of_ble_eq_true rfl⟩ ⟨Nat.le_refl _, Nat.le_refl _⟩ (Nat.le_of_ble_eq_true rfl) rfl dX12_purse_9 (fun H locs hH => ?_)
    refine x_beq (tgt := 24) hC dX12_purse_12 (by decide) (fun c12 => ?_) (fun c12 => ?_)
    · refine lv_ldc (v := 1000000000) hx hb hC.2.2.2.1 (hC.2.2.2.2 _ wd_941) dX12_purse_24 ?_
      refine lv_aload_n hx hb dX12_purse_26 rfl (lv_at hl 0 rfl) ?_
      refine lv_iconst (v := (-1)) hx hb dX12_purse_27 (by decide) ?_
      refine x_callVA (ws' := WM G ad (ua σ 1 (upd (σ 1) 1 ((σ 1) 1 + 1)))) (As := [.int (-1)]) (rest := [.int 1000000000]) (st' := [.int (-1), .int 1000000000]) hC hK hZ hA hl.1 hH (k_X12_refuse l G ad σ (-1) 1 rfl (by decide)) lk_X12_47 rfl 0 11 rfl rfl rfl ⟨Nat.le_of_ble_eq_true rfl, Nat.le_of_ble_eq_true rfl⟩ ⟨Nat.le_refl _, Nat.le_refl _⟩ (Nat.le_of_ble_eq_true rfl) rfl dX12_purse_28 (fun H locs hH => ?_)
      refine lv_isub hx hb dX12_purse_31 ?_
      exact x_iretE (ua σ 1 (upd (σ 1) 1 ((σ 1) 1 + 1))) hC hr hkL hH (by first | exact rfBk (cI_f c4) (by decide) | exact rfBk ((cI_t c4).trans (cI_f c12)) (by decide)) (congrArg (fun z_ : Nat → Int32 => WM G ad (ua σ 1 z_)) (by first | exact rfzk (cI_f c4) (by decide) | exact rfzk ((cI_t c4).trans (cI_f c12)) (by decide) : (rfz (σ 1) (ebC p 4 e (2 ^ bH β))) = (upd (σ 1) 1 ((σ 1) 1 + 1)))) dX12_purse_32
    · refine lv_aload_n hx hb dX12_purse_15 rfl (lv_at hl 0 rfl) ?_
      refine lv_iload_n hx hb dX12_purse_16 rfl (lv_at hl 1 rfl) ?_
      refine lv_iload_n hx hb dX12_purse_17 rfl (lv_at hl 2 rfl) ?_
      refine x_callVAE (wg := fun z18 => WM G ad (ua σ 0 (upd (upd (upd (upd (σ 0) 9 (z18 0 9)) 10 (z18 0 10)) 11 (z18 0 11)) 12 (z18 0 12)))) (As := [.int p, .int e]) (rest := []) (st' := [.int (purA β p e)]) hC hK hZ hA hl.1 hH (k_X12_purseOf l G ad σ p e β hR) lk_X12_132 rfl 0 11 rfl rfl rfl ⟨Nat.le_of_ble_eq_true rfl, Nat.le_of_ble_eq_true rfl⟩ ⟨Nat.le_refl _, Nat.le_refl _⟩ (Nat.le_of_ble_eq_true rfl) rfl dX12_purse_18 (fun z18 H locs hH => ?_)
      refine lv_goto (tgt := 32) hx hb dX12_purse_21 (by decide) ?_
      exact x_iretE (ua σ 0 (upd (upd (upd (upd (σ 0) 9 (z18 0 9)) 10 (z18 0 10)) 11 (z18 0 11)) 12 (z18 0 12))) hC hr hkL hH (by (refine (rfB0 ((cI_t c4).trans (cI_t c12))).trans ?_); rfl) ((congrArg (fun z_ : Nat → Int32 => WM G ad (ua (ua σ 0 (upd (upd (upd (upd (σ 0) 9 (z18 0 9)) 10 (z18 0 10)) 11 (z18 0 11)) 12 (z18 0 12))) 1 z_)) (by exact rfz0 ((cI_t c4).trans (cI_t c12)) : (rfz (σ 1) (ebC p 4 e (2 ^ bH β))) = (σ 1))).trans (show WM G ad (ua (ua σ 0 (upd (upd (upd (upd (σ 0) 9 (z18 0 9)) 10 (z18 0 10)) 11 (z18 0 11)) 12 (z18 0 12))) 1 (σ 1)) = WM G ad (ua σ 0 (upd (upd (upd (upd (σ 0) 9 (z18 0 9)) 10 (z18 0 10)) 11 (z18 0 11)) 12 (z18 0 12))) from rfl)) dX12_purse_32
set_option maxHeartbeats 4000000 in
set_option maxRecDepth 100000 in
theorem k_X12_mean (l : Launch) (G : GP) (ad : Nat → Nat) (σ : Nat → Nat → Int32) (p : Int32) (β : Bk) (hR : RB (σ 2) β) : CTE l G yX12_mean cX12_mean 2 (some .int) 6 [.ref (ad 0), .int p] (WM G ad σ) (some (.int (rfB (hbC p 4) (meanA β p)))) (fun z => WM G ad (ua (ua σ 0 (upd (upd (upd (upd (σ 0) 9 (z 0 9)) 10 (z 0 10)) 11 (z 0 11)) 12 (z 0 12))) 1 (rfz (σ 1) (hbC p 4)))) := by
  refine x_methE "BetsOnBetsModel" rfl (by decide +kernel) (fun z => by rfl) (Nat.le_of_ble_eq_true rfl) ?_
  intro pP eE sS mM args below meth cC A ls hC hr hkL hK hZ hA hH hl
  have hx := hC.1
  have hb := hC.2.1
  have hl : lv_has ls 2 [(0, .ref (ad 0)), (1, .int p)] := hl
  have hh4 := hR.2.2.1
  have hk6 := hR.2.2.2.1
  have pwh := pw4 hh4
  have pwk := pw6 hk6
  refine lv_iload_n hx hb dX12_mean_0 rfl (lv_at hl 1 rfl) ?_
  refine x_callS (ws' := WM G ad σ) (As := [.int p]) (rest := []) (st' := [.int (bI (0 ≤ p ∧ p < 4))]) hC hK hZ hA hl.1 hH (k_X12_isPerson l G (pk ad []) (pk σ []) p) lk_X12_77 [] rfl rfl rfl rfl ⟨Nat.le_of_ble_eq_true rfl, Nat.le_of_ble_eq_true rfl⟩ ⟨Nat.le_refl _, Nat.le_refl _⟩ (Nat.le_of_ble_eq_true rfl) rfl dX12_mean_1 (fun H locs hH => ?_)
  refine x_beq (tgt := 15) hC dX12_mean_4 (by decide) (fun c4 => ?_) (fun c4 => ?_)
  · refine lv_ldc (v := 1000000000) hx hb hC.2.2.2.1 (hC.2.2.2.2 _ wd_941) dX12_mean_15 ?_
    refine lv_aload_n hx hb dX12_mean_17 rfl (lv_at hl 0 rfl) ?_
    refine lv_iconst (v := (-1)) hx hb dX12_mean_18 (by decide) ?_
    refine x_callVA (ws' := WM G ad (ua σ 1 (upd (σ 1) 1 ((σ 1) 1 + 1)))) (As := [.int (-1)]) (rest := [.int 1000000000]) (st' := [.int (-1), .int 1000000000]) hC hK hZ hA hl.1 hH (k_X12_refuse l G ad σ (-1) 1 rfl (by decide)) lk_X12_47 rfl 0 11 rfl rfl rfl ⟨Nat.le_of_ble_eq_true rfl, Nat.le_of_ble_eq_true rfl⟩ ⟨Nat.le_refl _, Nat.le_refl _⟩ (Nat.le_of_ble_eq_true rfl) rfl dX12_mean_19 (fun H locs hH => ?_)
    refine lv_isub hx hb dX12_mean_22 ?_
    exact x_iretE (ua σ 1 (upd (σ 1) 1 ((σ 1) 1 + 1))) hC hr hkL hH (by exact rfBk (cI_f c4) (by decide)) (congrArg (fun z_ : Nat → Int32 => WM G ad (ua σ 1 z_)) (by exact rfzk (cI_f c4) (by decide) : (rfz (σ 1) (hbC p 4)) = (upd (σ 1) 1 ((σ 1) 1 + 1)))) dX12_mean_23
  · refine lv_aload_n hx hb dX12_mean_7 rfl (lv_at hl 0 rfl) ?_
    refine lv_iload_n hx hb dX12_mean_8 rfl (lv_at hl 1 rfl) ?_
    refine x_callVAE (wg := fun z9 => WM G ad (ua σ 0 (upd (upd (upd (upd (σ 0) 9 (z9 0 9)) 10 (z9 0 10)) 11 (z9 0 11)) 12 (z9 0 12)))) (As := [.int p]) (rest := []) (st' := [.int (meanA β p)]) hC hK hZ hA hl.1 hH (k_X12_meanOf l G ad σ p β hR) lk_X12_146 rfl 0 11 rfl rfl rfl ⟨Nat.le_of_ble_eq_true rfl, Nat.le_of_ble_eq_true rfl⟩ ⟨Nat.le_refl _, Nat.le_refl _⟩ (Nat.le_of_ble_eq_true rfl) rfl dX12_mean_9 (fun z9 H locs hH => ?_)
    refine lv_goto (tgt := 23) hx hb dX12_mean_12 (by decide) ?_
    exact x_iretE (ua σ 0 (upd (upd (upd (upd (σ 0) 9 (z9 0 9)) 10 (z9 0 10)) 11 (z9 0 11)) 12 (z9 0 12))) hC hr hkL hH (by (refine (rfB0 (cI_t c4)).trans ?_); rfl) ((congrArg (fun z_ : Nat → Int32 => WM G ad (ua (ua σ 0 (upd (upd (upd (upd (σ 0) 9 (z9 0 9)) 10 (z9 0 10)) 11 (z9 0 11)) 12 (z9 0 12))) 1 z_)) (by exact rfz0 (cI_t c4) : (rfz (σ 1) (hbC p 4)) = (σ 1))).trans (show WM G ad (ua (ua σ 0 (upd (upd (upd (upd (σ 0) 9 (z9 0 9)) 10 (z9 0 10)) 11 (z9 0 11)) 12 (z9 0 12))) 1 (σ 1)) = WM G ad (ua σ 0 (upd (upd (upd (upd (σ 0) 9 (z9 0 9)) 10 (z9 0 10)) 11 (z9 0 11)) 12 (z9 0 12))) from rfl)) dX12_mean_23
set_option maxHeartbeats 4000000 in
set_option maxRecDepth 100000 in
theorem k_X12_sure (l : Launch) (G : GP) (ad : Nat → Nat) (σ : Nat → Nat → Int32) (p : Int32) (β : Bk) (hR : RB (σ 2) β) : CTE l G yX12_sure cX12_sure 2 (some .int) 6 [.ref (ad 0), .int p] (WM G ad σ) (some (.int (rfA (hbC p 4) (sureA β p)))) (fun z => WM G ad (ua (ua σ 0 (upd (upd (upd (upd (σ 0) 9 (z 0 9)) 10 (z 0 10)) 11 (z 0 11)) 12 (z 0 12))) 1 (rfz (σ 1) (hbC p 4)))) := by
  refine x_methE "BetsOnBetsModel" rfl (by decide +kernel) (fun z => by rfl) (Nat.le_of_ble_eq_true rfl) ?_
  intro pP eE sS mM args below meth cC A ls hC hr hkL hK hZ hA hH hl
  have hx := hC.1
  have hb := hC.2.1
  have hl : lv_has ls 2 [(0, .ref (ad 0)), (1, .int p)] := hl
  have hh4 := hR.2.2.1
  have hk6 := hR.2.2.2.1
  have pwh := pw4 hh4
  have pwk := pw6 hk6
  refine lv_iload_n hx hb dX12_sure_0 rfl (lv_at hl 1 rfl) ?_
  refine x_callS (ws' := WM G ad σ) (As := [.int p]) (rest := []) (st' := [.int (bI (0 ≤ p ∧ p < 4))]) hC hK hZ hA hl.1 hH (k_X12_isPerson l G (pk ad []) (pk σ []) p) lk_X12_77 [] rfl rfl rfl rfl ⟨Nat.le_of_ble_eq_true rfl, Nat.le_of_ble_eq_true rfl⟩ ⟨Nat.le_refl _, Nat.le_refl _⟩ (Nat.le_of_ble_eq_true rfl) rfl dX12_sure_1 (fun H locs hH => ?_)
  refine x_bne (tgt := 13) hC dX12_sure_4 (by decide) (fun c4 => ?_) (fun c4 => ?_)
  · refine lv_aload_n hx hb dX12_sure_13 rfl (lv_at hl 0 rfl) ?_
    refine lv_iload_n hx hb dX12_sure_14 rfl (lv_at hl 1 rfl) ?_
    refine lv_aload_n hx hb dX12_sure_15 rfl (lv_at hl 0 rfl) ?_
    refine lv_iload_n hx hb dX12_sure_16 rfl (lv_at hl 1 rfl) ?_
    refine x_callVAE (wg := fun z17 => WM G ad (ua σ 0 (upd (upd (upd (upd (σ 0) 9 (z17 0 9)) 10 (z17 0 10)) 11 (z17 0 11)) 12 (z17 0 12)))) (As := [.int p]) (rest := [.int p, .ref (ad 0)]) (st' := [.int (nI (wEA β p)), .int p, .ref (ad 0)]) hC hK hZ hA hl.1 hH (k_X12_worstEnd l G ad σ p β hR) lk_X12_152 rfl 0 11 rfl rfl rfl ⟨Nat.le_of_ble_eq_true rfl, Nat.le_of_ble_eq_true rfl⟩ ⟨Nat.le_refl _, Nat.le_refl _⟩ (Nat.le_of_ble_eq_true rfl) rfl dX12_sure_17 (fun z17 H locs hH => ?_)
    refine x_callVAE (wg := fun z20 => WM G ad (ua σ 0 (upd (upd (upd (upd (σ 0) 9 (z20 0 9)) 10 (z20 0 10)) 11 (z20 0 11)) 12 (z20 0 12)))) (As := [.int p, .int (nI (wEA β p))]) (rest := []) (st' := [.int (purA β p (nI (wEA β p)))]) hC hK hZ hA hl.1 hH (k_X12_purseOf l G ad (ua σ 0 (upd (upd (upd (upd (σ 0) 9 (z17 0 9)) 10 (z17 0 10)) 11 (z17 0 11)) 12 (z17 0 12))) p (nI (wEA β p)) β hR) lk_X12_132 rfl 0 11 rfl rfl rfl ⟨Nat.le_of_ble_eq_true rfl, Nat.le_of_ble_eq_true rfl⟩ ⟨Nat.le_refl _, Nat.le_refl _⟩ (Nat.le_of_ble_eq_true rfl) rfl dX12_sure_20 (fun z20 H locs hH => ?_)
    refine lv_if_lt (tgt := 43) hx hb dX12_sure_23 (by decide) (fun c23 => ?_) (fun c23 => ?_)
    · refine lv_iconst (v := 0) hx hb dX12_sure_43 (by decide) ?_
      exact x_iretE (ua σ 0 (upd (upd (upd (upd (σ 0) 9 (z20 0 9)) 10 (z20 0 10)) 11 (z20 0 11)) 12 (z20 0 12))) hC hr hkL hH (by (refine (rfA0 (cI_t c4)).trans ?_); first | exact if_neg (Int32.not_le.mpr c23) | exact (if_pos (Int32.not_lt.mp c23)).trans (if_neg (Int32.not_lt.mpr c36)) | exact (if_pos (Int32.not_lt.mp c23)).trans (if_pos (Int32.not_le.mp c36))) ((congrArg (fun z_ : Nat → Int32 => WM G ad (ua (ua σ 0 (upd (upd (upd (upd (σ 0) 9 (z20 0 9)) 10 (z20 0 10)) 11 (z20 0 11)) 12 (z20 0 12))) 1 z_)) (by exact rfz0 (cI_t c4) : (rfz (σ 1) (hbC p 4)) = (σ 1))).trans (show WM G ad (ua (ua σ 0 (upd (upd (upd (upd (σ 0) 9 (z20 0 9)) 10 (z20 0 10)) 11 (z20 0 11)) 12 (z20 0 12))) 1 (σ 1)) = WM G ad (ua σ 0 (upd (upd (upd (upd (σ 0) 9 (z20 0 9)) 10 (z20 0 10)) 11 (z20 0 11)) 12 (z20 0 12))) from rfl)) dX12_sure_44
    · refine lv_aload_n hx hb dX12_sure_26 rfl (lv_at hl 0 rfl) ?_
      refine lv_iload_n hx hb dX12_sure_27 rfl (lv_at hl 1 rfl) ?_
      refine lv_aload_n hx hb dX12_sure_28 rfl (lv_at hl 0 rfl) ?_
      refine lv_iload_n hx hb dX12_sure_29 rfl (lv_at hl 1 rfl) ?_
      refine x_callVAE (wg := fun z30 => WM G ad (ua σ 0 (upd (upd (upd (upd (σ 0) 9 (z30 0 9)) 10 (z30 0 10)) 11 (z30 0 11)) 12 (z30 0 12)))) (As := [.int p]) (rest := [.int p, .ref (ad 0)]) (st' := [.int (nI (bEA β p)), .int p, .ref (ad 0)]) hC hK hZ hA hl.1 hH (k_X12_bestEnd l G ad (ua σ 0 (upd (upd (upd (upd (σ 0) 9 (z20 0 9)) 10 (z20 0 10)) 11 (z20 0 11)) 12 (z20 0 12))) p β hR) lk_X12_155 rfl 0 11 rfl rfl rfl ⟨Nat.le_of_ble_eq_true rfl, Nat.le_of_ble_eq_true rfl⟩ ⟨Nat.le_refl _, Nat.le_refl _⟩ (Nat.le_of_ble_eq_true rfl) rfl dX12_sure_30 (fun z30 H locs hH => ?_)
      refine x_callVAE (wg := fun z33 => WM G ad (ua σ 0 (upd (upd (upd (upd (σ 0) 9 (z33 0 9)) 10 (z33 0 10)) 11 (z33 0 11)) 12 (z33 0 12)))) (As := [.int p, .int (nI (bEA β p))]) (rest := []) (st' := [.int (purA β p (nI (bEA β p)))]) hC hK hZ hA hl.1 hH (k_X12_purseOf l G ad (ua σ 0 (upd (upd (upd (upd (σ 0) 9 (z30 0 9)) 10 (z30 0 10)) 11 (z30 0 11)) 12 (z30 0 12))) p (nI (bEA β p)) β hR) lk_X12_132 rfl 0 11 rfl rfl rfl ⟨Nat.le_of_ble_eq_true rfl, Nat.le_of_ble_eq_true rfl⟩ ⟨Nat.le_refl _, Nat.le_refl _⟩ (Nat.le_of_ble_eq_true rfl) rfl dX12_sure_33 (fun z33 H locs hH => ?_)
      refine lv_if_le (tgt := 43) hx hb dX12_sure_36 (by decide) (fun c36 => ?_) (fun c36 => ?_)
      · refine lv_iconst (v := 0) hx hb dX12_sure_43 (by decide) ?_
        exact x_iretE (ua σ 0 (upd (upd (upd (upd (σ 0) 9 (z33 0 9)) 10 (z33 0 10)) 11 (z33 0 11)) 12 (z33 0 12))) hC hr hkL hH (by (refine (rfA0 (cI_t c4)).trans ?_); first | exact if_neg (Int32.not_le.mpr c23) | exact (if_pos (Int32.not_lt.mp c23)).trans (if_neg (Int32.not_lt.mpr c36)) | exact (if_pos (Int32.not_lt.mp c23)).trans (if_pos (Int32.not_le.mp c36))) ((congrArg (fun z_ : Nat → Int32 => WM G ad (ua (ua σ 0 (upd (upd (upd (upd (σ 0) 9 (z33 0 9)) 10 (z33 0 10)) 11 (z33 0 11)) 12 (z33 0 12))) 1 z_)) (by exact rfz0 (cI_t c4) : (rfz (σ 1) (hbC p 4)) = (σ 1))).trans (show WM G ad (ua (ua σ 0 (upd (upd (upd (upd (σ 0) 9 (z33 0 9)) 10 (z33 0 10)) 11 (z33 0 11)) 12 (z33 0 12))) 1 (σ 1)) = WM G ad (ua σ 0 (upd (upd (upd (upd (σ 0) 9 (z33 0 9)) 10 (z33 0 10)) 11 (z33 0 11)) 12 (z33 0 12))) from rfl)) dX12_sure_44
      · refine lv_iconst (v := 1) hx hb dX12_sure_39 (by decide) ?_
        refine lv_goto (tgt := 44) hx hb dX12_sure_40 (by decide) ?_
        exact x_iretE (ua σ 0 (upd (upd (upd (upd (σ 0) 9 (z33 0 9)) 10 (z33 0 10)) 11 (z33 0 11)) 12 (z33 0 12))) hC hr hkL hH (by (refine (rfA0 (cI_t c4)).trans ?_); first | exact if_neg (Int32.not_le.mpr c23) | exact (if_pos (Int32.not_lt.mp c23)).trans (if_neg (Int32.not_lt.mpr c36)) | exact (if_pos (Int32.not_lt.mp c23)).trans (if_pos (Int32.not_le.mp c36))) ((congrArg (fun z_ : Nat → Int32 => WM G ad (ua (ua σ 0 (upd (upd (upd (upd (σ 0) 9 (z33 0 9)) 10 (z33 0 10)) 11 (z33 0 11)) 12 (z33 0 12))) 1 z_)) (by exact rfz0 (cI_t c4) : (rfz (σ 1) (hbC p 4)) = (σ 1))).trans (show WM G ad (ua (ua σ 0 (upd (upd (upd (upd (σ 0) 9 (z33 0 9)) 10 (z33 0 10)) 11 (z33 0 11)) 12 (z33 0 12))) 1 (σ 1)) = WM G ad (ua σ 0 (upd (upd (upd (upd (σ 0) 9 (z33 0 9)) 10 (z33 0 10)) 11 (z33 0 11)) 12 (z33 0 12))) from rfl)) dX12_sure_44
  · refine lv_aload_n hx hb dX12_sure_7 rfl (lv_at hl 0 rfl) ?_
    refine lv_iconst (v := (-1)) hx hb dX12_sure_8 (by decide) ?_
    refine x_callVA (ws' := WM G ad (ua σ 1 (upd (σ 1) 1 ((σ 1) 1 + 1)))) (As := [.int (-1)]) (rest := []) (st' := [.int (-1)]) hC hK hZ hA hl.1 hH (k_X12_refuse l G ad σ (-1) 1 rfl (by decide)) lk_X12_47 rfl 0 11 rfl rfl rfl ⟨Nat.le_of_ble_eq_true rfl, Nat.le_of_ble_eq_true rfl⟩ ⟨Nat.le_refl _, Nat.le_refl _⟩ (Nat.le_of_ble_eq_true rfl) rfl dX12_sure_9 (fun H locs hH => ?_)
    exact x_iretE (ua σ 1 (upd (σ 1) 1 ((σ 1) 1 + 1))) hC hr hkL hH (by exact rfAk (cI_f c4) (by decide)) (congrArg (fun z_ : Nat → Int32 => WM G ad (ua σ 1 z_)) (by exact rfzk (cI_f c4) (by decide) : (rfz (σ 1) (hbC p 4)) = (upd (σ 1) 1 ((σ 1) 1 + 1)))) dX12_sure_12
set_option maxHeartbeats 4000000 in
set_option maxRecDepth 100000 in
theorem k_X12_likely (l : Launch) (G : GP) (ad : Nat → Nat) (σ : Nat → Nat → Int32) (p : Int32) (β : Bk) (hR : RB (σ 2) β) : CTE l G yX12_likely cX12_likely 5 (some .int) 5 [.ref (ad 0), .int p] (WM G ad σ) (some (.int (rfA (hbC p 4) (likA β p)))) (fun z => WM G ad (ua (ua σ 0 (upd (upd (upd (upd (σ 0) 9 (z 0 9)) 10 (z 0 10)) 11 (z 0 11)) 12 (z 0 12))) 1 (rfz (σ 1) (hbC p 4)))) := by
  refine x_methE "BetsOnBetsModel" rfl (by decide +kernel) (fun z => by rfl) (Nat.le_of_ble_eq_true rfl) ?_
  intro pP eE sS mM args below meth cC A ls hC hr hkL hK hZ hA hH hl
  have hx := hC.1
  have hb := hC.2.1
  have hl : lv_has ls 5 [(0, .ref (ad 0)), (1, .int p)] := hl
  have hh4 := hR.2.2.1
  have hk6 := hR.2.2.2.1
  have pwh := pw4 hh4
  have pwk := pw6 hk6
  refine lv_iload_n hx hb dX12_likely_0 rfl (lv_at hl 1 rfl) ?_
  refine x_callS (ws' := WM G ad σ) (As := [.int p]) (rest := []) (st' := [.int (bI (0 ≤ p ∧ p < 4))]) hC hK hZ hA hl.1 hH (k_X12_isPerson l G (pk ad []) (pk σ []) p) lk_X12_77 [] rfl rfl rfl rfl ⟨Nat.le_of_ble_eq_true rfl, Nat.le_of_ble_eq_true rfl⟩ ⟨Nat.le_refl _, Nat.le_refl _⟩ (Nat.le_of_ble_eq_true rfl) rfl dX12_likely_1 (fun H locs hH => ?_)
  refine x_bne (tgt := 13) hC dX12_likely_4 (by decide) (fun c4 => ?_) (fun c4 => ?_)
  · refine lv_lconst (v := 0) hx hb dX12_likely_13 (by decide) ?_
    refine lv_lstore_n (lv' := [(2, .long (0 : Int64)), (0, .ref (ad 0)), (1, .int p)]) hx hb dX12_likely_14 rfl hl (by decide) rfl (fun ls hl => ?_)
    refine lv_iconst (v := 0) hx hb dX12_likely_15 (by decide) ?_
    refine lv_istore (lv' := [(4, .int 0), (2, .long (0 : Int64)), (0, .ref (ad 0)), (1, .int p)]) hx hb dX12_likely_16 hl (by decide) rfl (fun ls hl => ?_)
    refine x_loop (G := G) (A := A) (H0 := sS.heap) (nL := 5) (α := Nat × (Nat → Nat → Int32)) (fun q_ => (2 ^ bH β) - q_.1) (fun q_ => q_.1 ≤ (2 ^ bH β)) (fun q_ => WM G ad (ua σ 0 (upd (upd (upd (upd (σ 0) 9 (q_.2 0 9)) 10 (q_.2 0 10)) 11 (q_.2 0 11)) 12 (q_.2 0 12)))) (fun q_ => [(0, .ref (ad 0)), (1, .int p), (2, .long (sumL β p q_.1)), (4, .int (nI q_.1))]) ?_ (0, σ) (show 0 ≤ (2 ^ bH β) from (Nat.zero_le _)) ?_ ?_
    · rintro ⟨e, z_e⟩ hi_e ih_e H locs ls hH hl
      replace hi_e : e ≤ (2 ^ bH β) := hi_e
      replace hH : Hx G A (WM G ad (ua σ 0 (upd (upd (upd (upd (σ 0) 9 (z_e 0 9)) 10 (z_e 0 10)) 11 (z_e 0 11)) 12 (z_e 0 12)))) sS.heap H locs := hH
      replace hl : lv_has ls 5 [(0, .ref (ad 0)), (1, .int p), (2, .long (sumL β p e)), (4, .int (nI e))] := hl
      refine lv_iload hx hb dX12_likely_18 (lv_at hl 3 rfl) ?_
      refine lv_aload_n hx hb dX12_likely_20 rfl (lv_at hl 0 rfl) ?_
      refine x_callVA (ws' := WM G ad (ua σ 0 (upd (upd (upd (upd (σ 0) 9 (z_e 0 9)) 10 (z_e 0 10)) 11 (z_e 0 11)) 12 (z_e 0 12)))) (As := []) (rest := [.int (nI e)]) (st' := [.int (nI (2 ^ bH β)), .int (nI e)]) hC hK hZ hA hl.1 hH (k_X12_ends l G ad (ua σ 0 (upd (upd (upd (upd (σ 0) 9 (z_e 0 9)) 10 (z_e 0 10)) 11 (z_e 0 11)) 12 (z_e 0 12))) β hR) lk_X12_35 rfl 0 11 rfl rfl rfl ⟨Nat.le_of_ble_eq_true rfl, Nat.le_of_ble_eq_true rfl⟩ ⟨Nat.le_refl _, Nat.le_refl _⟩ (Nat.le_of_ble_eq_true rfl) rfl dX12_likely_21 (fun H locs hH => ?_)
      refine lv_icmp_ge (tgt := 56) hx hb dX12_likely_24 (by decide) (fun c24 => ?_) (fun c24 => ?_)
      · have ge_e := lp_out (n := 2 ^ bH β) rfl (by omega) (by omega) c24
        have eq_e : e = 2 ^ bH β := by omega
        refine lv_ldc2 (v := 100) hx hb hC.2.2.2.1 (hC.2.2.2.2 _ wd_954) dX12_likely_56 ?_
        refine lv_lload_n hx hb dX12_likely_59 rfl (lv_at hl 2 rfl) ?_
        refine lv_lmul hx hb dX12_likely_60 ?_
        refine lv_aload_n hx hb dX12_likely_61 rfl (lv_at hl 0 rfl) ?_
        refine x_callVA (ws' := WM G ad (ua σ 0 (upd (upd (upd (upd (σ 0) 9 (z_e 0 9)) 10 (z_e 0 10)) 11 (z_e 0 11)) 12 (z_e 0 12)))) (As := []) (rest := [.long ((100 : Int64) * (sumL β p e))]) (st' := [.long (whl (bH β)), .long ((100 : Int64) * (sumL β p e))]) hC hK hZ hA hl.1 hH (k_X12_wholeWeight l G ad (ua σ 0 (upd (upd (upd (upd (σ 0) 9 (z_e 0 9)) 10 (z_e 0 10)) 11 (z_e 0 11)) 12 (z_e 0 12))) β hR) lk_X12_142 rfl 0 11 rfl rfl rfl ⟨Nat.le_of_ble_eq_true rfl, Nat.le_of_ble_eq_true rfl⟩ ⟨Nat.le_refl _, Nat.le_refl _⟩ (Nat.le_of_ble_eq_true rfl) rfl dX12_likely_62 (fun H locs hH => ?_)
        refine lv_ldiv hx hb dX12_likely_65 (whl_ne _ (by omega)) ?_
        refine lv_l2i (v := ((((100 : Int64) * (sumL β p e)) / (whl (bH β))).toInt32)) hx hb dX12_likely_66 rfl ?_
        exact x_iretE (ua σ 0 (upd (upd (upd (upd (σ 0) 9 (z_e 0 9)) 10 (z_e 0 10)) 11 (z_e 0 11)) 12 (z_e 0 12))) hC hr hkL hH (by (refine (rfA0 (cI_t c4)).trans ?_); rw [eq_e]; rfl) ((congrArg (fun z_ : Nat → Int32 => WM G ad (ua (ua σ 0 (upd (upd (upd (upd (σ 0) 9 (z_e 0 9)) 10 (z_e 0 10)) 11 (z_e 0 11)) 12 (z_e 0 12))) 1 z_)) (by exact rfz0 (cI_t c4) : (rfz (σ 1) (hbC p 4)) = (σ 1))).trans (show WM G ad (ua (ua σ 0 (upd (upd (upd (upd (σ 0) 9 (z_e 0 9)) 10 (z_e 0 10)) 11 (z_e 0 11)) 12 (z_e 0 12))) 1 (σ 1)) = WM G ad (ua σ 0 (upd (upd (upd (upd (σ 0) 9 (z_e 0 9)) 10 (z_e 0 10)) 11 (z_e 0 11)) 12 (z_e 0 12))) from rfl)) dX12_likely_67
      · have lt_e := lp_in (n := 2 ^ bH β) rfl (by omega) (by omega) c24
        refine lv_lload_n hx hb dX12_likely_27 rfl (lv_at hl 2 rfl) ?_
        refine lv_aload_n hx hb dX12_likely_28 rfl (lv_at hl 0 rfl) ?_
        refine lv_iload_n hx hb dX12_likely_29 rfl (lv_at hl 1 rfl) ?_
        refine lv_iload hx hb dX12_likely_30 (lv_at hl 3 rfl) ?_
        refine x_callVAE (wg := fun z32 => WM G ad (ua σ 0 (upd (upd (upd (upd (σ 0) 9 (z32 0 9)) 10 (z32 0 10)) 11 (z32 0 11)) 12 (z32 0 12)))) (As := [.int p, .int (nI e)]) (rest := [.long (sumL β p e)]) (st' := [.int (purA β p (nI e)), .long (sumL β p e)]) hC hK hZ hA hl.1 hH (k_X12_purseOf l G ad (ua σ 0 (upd (upd (upd (upd (σ 0) 9 (z_e 0 9)) 10 (z_e 0 10)) 11 (z_e 0 11)) 12 (z_e 0 12))) p (nI e) β hR) lk_X12_132 rfl 0 11 rfl rfl rfl ⟨Nat.le_of_ble_eq_true rfl, Nat.le_of_ble_eq_true rfl⟩ ⟨Nat.le_refl _, Nat.le_refl _⟩ (Nat.le_of_ble_eq_true rfl) rfl dX12_likely_32 (fun z32 H locs hH => ?_)
        refine lv_if_le (tgt := 47) hx hb dX12_likely_35 (by decide) (fun c35 => ?_) (fun c35 => ?_)
        · refine lv_lconst (v := 0) hx hb dX12_likely_47 (by decide) ?_
          refine lv_ladd hx hb dX12_likely_48 ?_
          refine lv_lstore_n (lv' := [(2, .long ((sumL β p e) + (0 : Int64))), (0, .ref (ad 0)), (1, .int p), (4, .int (nI e))]) hx hb dX12_likely_49 rfl hl (by decide) rfl (fun ls hl => ?_)
          refine lv_iinc (v := ((nI e) + 1)) (lv' := [(4, .int ((nI e) + 1)), (2, .long ((sumL β p e) + (0 : Int64))), (0, .ref (ad 0)), (1, .int p)]) hx hb dX12_likely_50 hl (k := 3) rfl rfl (by decide) rfl (fun ls hl => ?_)
          refine lv_goto (tgt := 18) hx hb dX12_likely_53 (by decide) ?_
          exact ih_e ((e + 1), (ua σ 0 (upd (upd (upd (upd (σ 0) 9 (z32 0 9)) 10 (z32 0 10)) 11 (z32 0 11)) 12 (z32 0 12)))) (show (e + 1) ≤ (2 ^ bH β) from (by omega)) (show (2 ^ bH β) - (e + 1) < (2 ^ bH β) - e from (by omega)) _ _ _ (hH.eq rfl) (lv_eq (lv_sub hl [2, 3, 1, 0] rfl) (lc_s (lc_s (lc_l (by first | (rw [sumL, if_neg (Int32.not_lt.mpr c35)]; done) | (rw [sumL, if_pos (Int32.not_le.mp c35)]; done) : ((sumL β p e) + (0 : Int64)) = (sumL β p (e + 1))) (lc_i (by exact nI_1 _ : ((nI e) + 1) = (nI (e + 1))) rfl)))))
        · refine lv_aload_n hx hb dX12_likely_38 rfl (lv_at hl 0 rfl) ?_
          refine lv_iload hx hb dX12_likely_39 (lv_at hl 3 rfl) ?_
          refine x_callVA (ws' := WM G ad (ua σ 0 (upd (upd (upd (upd (σ 0) 9 (z32 0 9)) 10 (z32 0 10)) 11 (z32 0 11)) 12 (z32 0 12)))) (As := [.int (nI e)]) (rest := [.long (sumL β p e)]) (st' := [.long (wgtA β (nI e)), .long (sumL β p e)]) hC hK hZ hA hl.1 hH (k_X12_weightOf l G ad (ua σ 0 (upd (upd (upd (upd (σ 0) 9 (z32 0 9)) 10 (z32 0 10)) 11 (z32 0 11)) 12 (z32 0 12))) (nI e) β hR) lk_X12_138 rfl 0 11 rfl rfl rfl ⟨Nat.le_of_ble_eq_true rfl, Nat.le_of_ble_eq_true rfl⟩ ⟨Nat.le_refl _, Nat.le_refl _⟩ (Nat.le_of_ble_eq_true rfl) rfl dX12_likely_41 (fun H locs hH => ?_)
          refine lv_goto (tgt := 48) hx hb dX12_likely_44 (by decide) ?_
          refine lv_ladd hx hb dX12_likely_48 ?_
          refine lv_lstore_n (lv' := [(2, .long ((sumL β p e) + (wgtA β (nI e)))), (0, .ref (ad 0)), (1, .int p), (4, .int (nI e))]) hx hb dX12_likely_49 rfl hl (by decide) rfl (fun ls hl => ?_)
          refine lv_iinc (v := ((nI e) + 1)) (lv' := [(4, .int ((nI e) + 1)), (2, .long ((sumL β p e) + (wgtA β (nI e)))), (0, .ref (ad 0)), (1, .int p)]) hx hb dX12_likely_50 hl (k := 3) rfl rfl (by decide) rfl (fun ls hl => ?_)
          refine lv_goto (tgt := 18) hx hb dX12_likely_53 (by decide) ?_
          exact ih_e ((e + 1), (ua σ 0 (upd (upd (upd (upd (σ 0) 9 (z32 0 9)) 10 (z32 0 10)) 11 (z32 0 11)) 12 (z32 0 12)))) (show (e + 1) ≤ (2 ^ bH β) from (by omega)) (show (2 ^ bH β) - (e + 1) < (2 ^ bH β) - e from (by omega)) _ _ _ (hH.eq rfl) (lv_eq (lv_sub hl [2, 3, 1, 0] rfl) (lc_s (lc_s (lc_l (by first | (rw [sumL, if_neg (Int32.not_lt.mpr c35)]; done) | (rw [sumL, if_pos (Int32.not_le.mp c35)]; done) : ((sumL β p e) + (wgtA β (nI e))) = (sumL β p (e + 1))) (lc_i (by exact nI_1 _ : ((nI e) + 1) = (nI (e + 1))) rfl)))))
    · exact hH.eq rfl
    · exact lv_eq (lv_sub hl [2, 3, 1, 0] rfl) (lc_s (lc_s (lc_l (by rfl : (0 : Int64) = (sumL β p 0)) (lc_i (by rfl : 0 = (nI 0)) rfl))))
  · refine lv_aload_n hx hb dX12_likely_7 rfl (lv_at hl 0 rfl) ?_
    refine lv_iconst (v := (-1)) hx hb dX12_likely_8 (by decide) ?_
    refine x_callVA (ws' := WM G ad (ua σ 1 (upd (σ 1) 1 ((σ 1) 1 + 1)))) (As := [.int (-1)]) (rest := []) (st' := [.int (-1)]) hC hK hZ hA hl.1 hH (k_X12_refuse l G ad σ (-1) 1 rfl (by decide)) lk_X12_47 rfl 0 11 rfl rfl rfl ⟨Nat.le_of_ble_eq_true rfl, Nat.le_of_ble_eq_true rfl⟩ ⟨Nat.le_refl _, Nat.le_refl _⟩ (Nat.le_of_ble_eq_true rfl) rfl dX12_likely_9 (fun H locs hH => ?_)
    exact x_iretE (ua σ 1 (upd (σ 1) 1 ((σ 1) 1 + 1))) hC hr hkL hH (by exact rfAk (cI_f c4) (by decide)) (congrArg (fun z_ : Nat → Int32 => WM G ad (ua σ 1 z_)) (by exact rfzk (cI_f c4) (by decide) : (rfz (σ 1) (hbC p 4)) = (upd (σ 1) 1 ((σ 1) 1 + 1)))) dX12_likely_12
set_option maxHeartbeats 4000000 in
set_option maxRecDepth 100000 in
theorem k_X12_voids (l : Launch) (G : GP) (ad : Nat → Nat) (σ : Nat → Nat → Int32) (β : Bk) (hR : RB (σ 2) β) : CTE l G yX12_voids cX12_voids 4 (some .int) 4 [.ref (ad 0)] (WM G ad σ) (some (.int (vOut β (2 ^ bH β)))) (fun z => WM G ad (ua σ 0 (upd (upd (upd (upd (σ 0) 9 (z 0 9)) 10 (z 0 10)) 11 (z 0 11)) 12 (z 0 12)))) := by
  refine x_methE "BetsOnBetsModel" rfl (by decide +kernel) (fun z => by rfl) (Nat.le_of_ble_eq_true rfl) ?_
  intro pP eE sS mM args below meth cC A ls hC hr hkL hK hZ hA hH hl
  have hx := hC.1
  have hb := hC.2.1
  have hl : lv_has ls 4 [(0, .ref (ad 0))] := hl
  have hh4 := hR.2.2.1
  have hk6 := hR.2.2.2.1
  have pwh := pw4 hh4
  have pwk := pw6 hk6
  refine lv_iconst (v := 0) hx hb dX12_voids_0 (by decide) ?_
  refine lv_istore_n (lv' := [(1, .int 0), (0, .ref (ad 0))]) hx hb dX12_voids_1 rfl hl (by decide) rfl (fun ls hl => ?_)
  refine lv_iconst (v := 0) hx hb dX12_voids_2 (by decide) ?_
  refine lv_istore_n (lv' := [(2, .int 0), (1, .int 0), (0, .ref (ad 0))]) hx hb dX12_voids_3 rfl hl (by decide) rfl (fun ls hl => ?_)
  refine x_loop (G := G) (A := A) (H0 := sS.heap) (nL := 4) (α := Nat × (Nat → Nat → Int32)) (fun q_ => (2 ^ bH β) - q_.1) (fun q_ => q_.1 ≤ (2 ^ bH β)) (fun q_ => WM G ad (ua σ 0 (upd (upd (upd (upd (σ 0) 9 (q_.2 0 9)) 10 (q_.2 0 10)) 11 (q_.2 0 11)) 12 (q_.2 0 12)))) (fun q_ => [(0, .ref (ad 0)), (1, .int (vOut β q_.1)), (2, .int (nI q_.1))]) ?_ (0, σ) (show 0 ≤ (2 ^ bH β) from (Nat.zero_le _)) ?_ ?_
  · rintro ⟨e, z_e⟩ hi_e ih_e H locs ls hH hl
    replace hi_e : e ≤ (2 ^ bH β) := hi_e
    replace hH : Hx G A (WM G ad (ua σ 0 (upd (upd (upd (upd (σ 0) 9 (z_e 0 9)) 10 (z_e 0 10)) 11 (z_e 0 11)) 12 (z_e 0 12)))) sS.heap H locs := hH
    replace hl : lv_has ls 4 [(0, .ref (ad 0)), (1, .int (vOut β e)), (2, .int (nI e))] := hl
    refine lv_iload_n hx hb dX12_voids_4 rfl (lv_at hl 2 rfl) ?_
    refine lv_aload_n hx hb dX12_voids_5 rfl (lv_at hl 0 rfl) ?_
    refine x_callVA (ws' := WM G ad (ua σ 0 (upd (upd (upd (upd (σ 0) 9 (z_e 0 9)) 10 (z_e 0 10)) 11 (z_e 0 11)) 12 (z_e 0 12)))) (As := []) (rest := [.int (nI e)]) (st' := [.int (nI (2 ^ bH β)), .int (nI e)]) hC hK hZ hA hl.1 hH (k_X12_ends l G ad (ua σ 0 (upd (upd (upd (upd (σ 0) 9 (z_e 0 9)) 10 (z_e 0 10)) 11 (z_e 0 11)) 12 (z_e 0 12))) β hR) lk_X12_35 rfl 0 11 rfl rfl rfl ⟨Nat.le_of_ble_eq_true rfl, Nat.le_of_ble_eq_true rfl⟩ ⟨Nat.le_refl _, Nat.le_refl _⟩ (Nat.le_of_ble_eq_true rfl) rfl dX12_voids_6 (fun H locs hH => ?_)
    refine lv_icmp_ge (tgt := 56) hx hb dX12_voids_9 (by decide) (fun c9 => ?_) (fun c9 => ?_)
    · have ge_e := lp_out (n := 2 ^ bH β) rfl (by omega) (by omega) c9
      have eq_e : e = 2 ^ bH β := by omega
      refine lv_iload_n hx hb dX12_voids_56 rfl (lv_at hl 1 rfl) ?_
      exact x_iretE (ua σ 0 (upd (upd (upd (upd (σ 0) 9 (z_e 0 9)) 10 (z_e 0 10)) 11 (z_e 0 11)) 12 (z_e 0 12))) hC hr hkL hH (by rw [eq_e]) rfl dX12_voids_57
    · have lt_e := lp_in (n := 2 ^ bH β) rfl (by omega) (by omega) c9
      refine lv_aload_n hx hb dX12_voids_12 rfl (lv_at hl 0 rfl) ?_
      refine lv_iload_n hx hb dX12_voids_13 rfl (lv_at hl 2 rfl) ?_
      refine x_callVA (ws' := WM G ad (ua σ 0 (upd (upd (upd (upd (σ 0) 9 ((fwA β (nI e)).1)) 10 ((fwA β (nI e)).2.1)) 11 ((fwA β (nI e)).2.2.1)) 12 ((fwA β (nI e)).2.2.2)))) (As := [.int (nI e)]) (rest := []) (st' := []) hC hK hZ hA hl.1 hH (k_X12_findsWays l G ad (ua σ 0 (upd (upd (upd (upd (σ 0) 9 (z_e 0 9)) 10 (z_e 0 10)) 11 (z_e 0 11)) 12 (z_e 0 12))) (nI e) β hR) lk_X12_125 rfl 0 11 rfl rfl rfl ⟨Nat.le_of_ble_eq_true rfl, Nat.le_of_ble_eq_true rfl⟩ ⟨Nat.le_refl _, Nat.le_refl _⟩ (Nat.le_of_ble_eq_true rfl) rfl dX12_voids_14 (fun H locs hH => ?_)
      refine lv_iconst (v := 0) hx hb dX12_voids_17 (by decide) ?_
      refine lv_istore_n (lv' := [(3, .int 0), (0, .ref (ad 0)), (1, .int (vOut β e)), (2, .int (nI e))]) hx hb dX12_voids_18 rfl hl (by decide) rfl (fun ls hl => ?_)
      refine x_loop (G := G) (A := A) (H0 := sS.heap) (nL := 4) (α := Nat) (fun q_ => (bK β) - q_) (fun q_ => q_ ≤ (bK β)) (fun q_ => WM G ad (ua σ 0 (upd (upd (upd (upd (σ 0) 9 ((fwA β (nI e)).1)) 10 ((fwA β (nI e)).2.1)) 11 ((fwA β (nI e)).2.2.1)) 12 ((fwA β (nI e)).2.2.2)))) (fun q_ => [(0, .ref (ad 0)), (1, .int (vIn β (nI e) (vOut β e) q_)), (2, .int (nI e)), (3, .int (nI q_))]) ?_ 0 (show 0 ≤ (bK β) from (Nat.zero_le _)) ?_ ?_
      · rintro b hi_b ih_b H locs ls hH hl
        replace hi_b : b ≤ (bK β) := hi_b
        replace hH : Hx G A (WM G ad (ua σ 0 (upd (upd (upd (upd (σ 0) 9 ((fwA β (nI e)).1)) 10 ((fwA β (nI e)).2.1)) 11 ((fwA β (nI e)).2.2.1)) 12 ((fwA β (nI e)).2.2.2)))) sS.heap H locs := hH
        replace hl : lv_has ls 4 [(0, .ref (ad 0)), (1, .int (vIn β (nI e) (vOut β e) b)), (2, .int (nI e)), (3, .int (nI b))] := hl
        refine lv_iload_n hx hb dX12_voids_19 rfl (lv_at hl 3 rfl) ?_
        refine lv_aload_n hx hb dX12_voids_20 rfl (lv_at hl 0 rfl) ?_
        refine gf_X12_13 (v := .ref (ad 2)) hC hK hH 0 rfl rfl dX12_voids_21 ?_
        refine lv_iconst (v := 1) hx hb dX12_voids_24 (by decide) ?_
        refine x_ialN (f := (σ 2)) hC hK hH 2 1 rfl rfl (by decide) (Nat.le_of_ble_eq_true rfl) dX12_voids_25 ?_
        refine lv_icmp_ge (tgt := 50) hx hb dX12_voids_26 (by decide) (fun c26 => ?_) (fun c26 => ?_)
        · have ge_b := lp_out (n := bK β) hR.2.1 (by omega) (by omega) c26
          have eq_b : b = bK β := by omega
          refine lv_iinc (v := ((nI e) + 1)) (lv' := [(2, .int ((nI e) + 1)), (0, .ref (ad 0)), (1, .int (vIn β (nI e) (vOut β e) b)), (3, .int (nI b))]) hx hb dX12_voids_50 hl (k := 2) rfl rfl (by decide) rfl (fun ls hl => ?_)
          refine lv_goto (tgt := 4) hx hb dX12_voids_53 (by decide) ?_
          exact ih_e ((e + 1), (ua σ 0 (upd (upd (upd (upd (σ 0) 9 ((fwA β (nI e)).1)) 10 ((fwA β (nI e)).2.1)) 11 ((fwA β (nI e)).2.2.1)) 12 ((fwA β (nI e)).2.2.2)))) (show (e + 1) ≤ (2 ^ bH β) from (by omega)) (show (2 ^ bH β) - (e + 1) < (2 ^ bH β) - e from (by omega)) _ _ _ (hH.eq rfl) (lv_eq (lv_sub hl [1, 2, 0] rfl) (lc_s (lc_i (by rw [eq_b]; rfl : (vIn β (nI e) (vOut β e) b) = (vOut β (e + 1))) (lc_i (by exact nI_1 _ : ((nI e) + 1) = (nI (e + 1))) rfl))))
        · have lt_b := lp_in (n := bK β) hR.2.1 (by omega) (by omega) c26
          refine lv_aload_n hx hb dX12_voids_29 rfl (lv_at hl 0 rfl) ?_
          refine lv_iload_n hx hb dX12_voids_30 rfl (lv_at hl 3 rfl) ?_
          refine x_callVA (ws' := WM G ad (ua σ 0 (upd (upd (upd (upd (σ 0) 9 ((fwA β (nI e)).1)) 10 ((fwA β (nI e)).2.1)) 11 ((fwA β (nI e)).2.2.1)) 12 ((fwA β (nI e)).2.2.2)))) (As := [.int (nI b)]) (rest := []) (st' := [.int (standF (fwA β (nI e)).1 (fwA β (nI e)).2.2.2 (fwA β (nI e)).2.2.1 (nI b))]) hC hK hZ hA hl.1 hH (k_X12_standingOf l G ad (ua σ 0 (upd (upd (upd (upd (σ 0) 9 ((fwA β (nI e)).1)) 10 ((fwA β (nI e)).2.1)) 11 ((fwA β (nI e)).2.2.1)) 12 ((fwA β (nI e)).2.2.2))) (nI b)) lk_X12_129 rfl 0 11 rfl rfl rfl ⟨Nat.le_of_ble_eq_true rfl, Nat.le_of_ble_eq_true rfl⟩ ⟨Nat.le_refl _, Nat.le_refl _⟩ (Nat.le_of_ble_eq_true rfl) rfl dX12_voids_31 (fun H locs hH => ?_)
          refine x_topE (y := (stP β (nI e) b)) rfl ?_
          refine lv_iconst (v := 2) hx hb dX12_voids_34 (by decide) ?_
          refine lv_icmp_ne (tgt := 44) hx hb dX12_voids_35 (by decide) (fun c35 => ?_) (fun c35 => ?_)
          · refine lv_iinc (v := ((nI b) + 1)) (lv' := [(3, .int ((nI b) + 1)), (0, .ref (ad 0)), (1, .int (vIn β (nI e) (vOut β e) b)), (2, .int (nI e))]) hx hb dX12_voids_44 hl (k := 3) rfl rfl (by decide) rfl (fun ls hl => ?_)
            refine lv_goto (tgt := 19) hx hb dX12_voids_47 (by decide) ?_
            exact ih_b (b + 1) (show (b + 1) ≤ (bK β) from (by omega)) (show (bK β) - (b + 1) < (bK β) - b from (by omega)) _ _ _ (hH.eq rfl) (lv_eq (lv_sub hl [1, 2, 3, 0] rfl) (lc_s (lc_i (by first | (rw [vIn_f c35]; done) | (rw [vIn_t c35]; done) : (vIn β (nI e) (vOut β e) b) = (vIn β (nI e) (vOut β e) (b + 1))) (lc_s (lc_i (by exact nI_1 _ : ((nI b) + 1) = (nI (b + 1))) rfl)))))
          · refine lv_iload_n hx hb dX12_voids_38 rfl (lv_at hl 1 rfl) ?_
            refine lv_iconst (v := 1) hx hb dX12_voids_39 (by decide) ?_
            refine lv_iload_n hx hb dX12_voids_40 rfl (lv_at hl 3 rfl) ?_
            refine lv_ishl hx hb dX12_voids_41 ?_
            refine lv_ior hx hb dX12_voids_42 ?_
            refine lv_istore_n (lv' := [(1, .int ((vIn β (nI e) (vOut β e) b) ||| ((1 : Int32) <<< ((nI b) &&& 31)))), (0, .ref (ad 0)), (2, .int (nI e)), (3, .int (nI b))]) hx hb dX12_voids_43 rfl hl (by decide) rfl (fun ls hl => ?_)
            refine lv_iinc (v := ((nI b) + 1)) (lv' := [(3, .int ((nI b) + 1)), (1, .int ((vIn β (nI e) (vOut β e) b) ||| ((1 : Int32) <<< ((nI b) &&& 31)))), (0, .ref (ad 0)), (2, .int (nI e))]) hx hb dX12_voids_44 hl (k := 3) rfl rfl (by decide) rfl (fun ls hl => ?_)
            refine lv_goto (tgt := 19) hx hb dX12_voids_47 (by decide) ?_
            exact ih_b (b + 1) (show (b + 1) ≤ (bK β) from (by omega)) (show (bK β) - (b + 1) < (bK β) - b from (by omega)) _ _ _ (hH.eq rfl) (lv_eq (lv_sub hl [2, 1, 3, 0] rfl) (lc_s (lc_i (by first | (rw [vIn_f c35]; done) | (rw [vIn_t c35]; done) : ((vIn β (nI e) (vOut β e) b) ||| ((1 : Int32) <<< ((nI b) &&& 31))) = (vIn β (nI e) (vOut β e) (b + 1))) (lc_s (lc_i (by exact nI_1 _ : ((nI b) + 1) = (nI (b + 1))) rfl)))))
      · exact hH.eq rfl
      · exact lv_eq (lv_sub hl [1, 2, 3, 0] rfl) (lc_s (lc_i (by rfl : (vOut β e) = (vIn β (nI e) (vOut β e) 0)) (lc_s (lc_i (by rfl : 0 = (nI 0)) rfl))))
  · exact hH.eq rfl
  · exact lv_eq (lv_sub hl [2, 1, 0] rfl) (lc_s (lc_i (by rfl : 0 = (vOut β 0)) (lc_i (by rfl : 0 = (nI 0)) rfl)))
set_option maxHeartbeats 4000000 in
set_option maxRecDepth 100000 in
theorem k_X12_host (l : Launch) (G : GP) (ad : Nat → Nat) (σ : Nat → Nat → Int32) (β : Bk) (hR : RB (σ 2) β) : CTE l G yX12_host cX12_host 3 (some .int) 6 [.ref (ad 0)] (WM G ad σ) (some (.int (nI (hosA β 4)))) (fun z => WM G ad (ua σ 0 (upd (upd (upd (upd (σ 0) 9 (z 0 9)) 10 (z 0 10)) 11 (z 0 11)) 12 (z 0 12)))) := by
  refine x_methE "BetsOnBetsModel" rfl (by decide +kernel) (fun z => by rfl) (Nat.le_of_ble_eq_true rfl) ?_
  intro pP eE sS mM args below meth cC A ls hC hr hkL hK hZ hA hH hl
  have hx := hC.1
  have hb := hC.2.1
  have hl : lv_has ls 3 [(0, .ref (ad 0))] := hl
  have hh4 := hR.2.2.1
  have hk6 := hR.2.2.2.1
  have pwh := pw4 hh4
  have pwk := pw6 hk6
  refine lv_iconst (v := 0) hx hb dX12_host_0 (by decide) ?_
  refine lv_istore_n (lv' := [(1, .int 0), (0, .ref (ad 0))]) hx hb dX12_host_1 rfl hl (by decide) rfl (fun ls hl => ?_)
  refine lv_iconst (v := 1) hx hb dX12_host_2 (by decide) ?_
  refine lv_istore_n (lv' := [(2, .int 1), (1, .int 0), (0, .ref (ad 0))]) hx hb dX12_host_3 rfl hl (by decide) rfl (fun ls hl => ?_)
  refine x_loop (G := G) (A := A) (H0 := sS.heap) (nL := 3) (α := Nat × (Nat → Nat → Int32)) (fun q_ => 4 - q_.1) (fun q_ => q_.1 ≤ 4) (fun q_ => WM G ad (ua σ 0 (upd (upd (upd (upd (σ 0) 9 (q_.2 0 9)) 10 (q_.2 0 10)) 11 (q_.2 0 11)) 12 (q_.2 0 12)))) (fun q_ => [(0, .ref (ad 0)), (1, .int (nI (hosA β q_.1))), (2, .int (nI q_.1))]) ?_ (1, σ) (show 1 ≤ 4 from (by omega)) ?_ ?_
  · rintro ⟨q, z_q⟩ hi_q ih_q H locs ls hH hl
    replace hi_q : q ≤ 4 := hi_q
    replace hH : Hx G A (WM G ad (ua σ 0 (upd (upd (upd (upd (σ 0) 9 (z_q 0 9)) 10 (z_q 0 10)) 11 (z_q 0 11)) 12 (z_q 0 12)))) sS.heap H locs := hH
    replace hl : lv_has ls 3 [(0, .ref (ad 0)), (1, .int (nI (hosA β q))), (2, .int (nI q))] := hl
    refine lv_iload_n hx hb dX12_host_4 rfl (lv_at hl 2 rfl) ?_
    refine lv_iconst (v := 4) hx hb dX12_host_5 (by decide) ?_
    refine lv_icmp_ge (tgt := 30) hx hb dX12_host_6 (by decide) (fun c6 => ?_) (fun c6 => ?_)
    · have ge_q := lp_out (n := 4) rfl (by omega) (by omega) c6
      have eq_q : q = 4 := by omega
      subst eq_q
      refine lv_iload_n hx hb dX12_host_30 rfl (lv_at hl 1 rfl) ?_
      exact x_iretE (ua σ 0 (upd (upd (upd (upd (σ 0) 9 (z_q 0 9)) 10 (z_q 0 10)) 11 (z_q 0 11)) 12 (z_q 0 12))) hC hr hkL hH rfl rfl dX12_host_31
    · have lt_q := lp_in (n := 4) rfl (by omega) (by omega) c6
      refine lv_aload_n hx hb dX12_host_9 rfl (lv_at hl 0 rfl) ?_
      refine lv_iload_n hx hb dX12_host_10 rfl (lv_at hl 2 rfl) ?_
      refine x_callVAE (wg := fun z11 => WM G ad (ua σ 0 (upd (upd (upd (upd (σ 0) 9 (z11 0 9)) 10 (z11 0 10)) 11 (z11 0 11)) 12 (z11 0 12)))) (As := [.int (nI q)]) (rest := []) (st' := [.int (meanA β (nI q))]) hC hK hZ hA hl.1 hH (k_X12_meanOf l G ad (ua σ 0 (upd (upd (upd (upd (σ 0) 9 (z_q 0 9)) 10 (z_q 0 10)) 11 (z_q 0 11)) 12 (z_q 0 12))) (nI q) β hR) lk_X12_146 rfl 0 11 rfl rfl rfl ⟨Nat.le_of_ble_eq_true rfl, Nat.le_of_ble_eq_true rfl⟩ ⟨Nat.le_refl _, Nat.le_refl _⟩ (Nat.le_of_ble_eq_true rfl) rfl dX12_host_11 (fun z11 H locs hH => ?_)
      refine lv_aload_n hx hb dX12_host_14 rfl (lv_at hl 0 rfl) ?_
      refine lv_iload_n hx hb dX12_host_15 rfl (lv_at hl 1 rfl) ?_
      refine x_callVAE (wg := fun z16 => WM G ad (ua σ 0 (upd (upd (upd (upd (σ 0) 9 (z16 0 9)) 10 (z16 0 10)) 11 (z16 0 11)) 12 (z16 0 12)))) (As := [.int (nI (hosA β q))]) (rest := [.int (meanA β (nI q))]) (st' := [.int (meanA β (nI (hosA β q))), .int (meanA β (nI q))]) hC hK hZ hA hl.1 hH (k_X12_meanOf l G ad (ua σ 0 (upd (upd (upd (upd (σ 0) 9 (z11 0 9)) 10 (z11 0 10)) 11 (z11 0 11)) 12 (z11 0 12))) (nI (hosA β q)) β hR) lk_X12_146 rfl 0 11 rfl rfl rfl ⟨Nat.le_of_ble_eq_true rfl, Nat.le_of_ble_eq_true rfl⟩ ⟨Nat.le_refl _, Nat.le_refl _⟩ (Nat.le_of_ble_eq_true rfl) rfl dX12_host_16 (fun z16 H locs hH => ?_)
      refine lv_icmp_le (tgt := 24) hx hb dX12_host_19 (by decide) (fun c19 => ?_) (fun c19 => ?_)
      · refine lv_iinc (v := ((nI q) + 1)) (lv' := [(2, .int ((nI q) + 1)), (0, .ref (ad 0)), (1, .int (nI (hosA β q)))]) hx hb dX12_host_24 hl (k := 2) rfl rfl (by decide) rfl (fun ls hl => ?_)
        refine lv_goto (tgt := 4) hx hb dX12_host_27 (by decide) ?_
        exact ih_q ((q + 1), (ua σ 0 (upd (upd (upd (upd (σ 0) 9 (z16 0 9)) 10 (z16 0 10)) 11 (z16 0 11)) 12 (z16 0 12)))) (show (q + 1) ≤ 4 from (by omega)) (show 4 - (q + 1) < 4 - q from (by omega)) _ _ _ (hH.eq rfl) (lv_eq (lv_sub hl [1, 2, 0] rfl) (lc_s (lc_i (by first | (rw [hosA_f (Int32.not_lt.mpr c19)]; done) | (rw [hosA_t (Int32.not_le.mp c19)]; done) : (nI (hosA β q)) = (nI (hosA β (q + 1)))) (lc_i (by exact nI_1 _ : ((nI q) + 1) = (nI (q + 1))) rfl))))
      · refine lv_iload_n hx hb dX12_host_22 rfl (lv_at hl 2 rfl) ?_
        refine lv_istore_n (lv' := [(1, .int (nI q)), (0, .ref (ad 0)), (2, .int (nI q))]) hx hb dX12_host_23 rfl hl (by decide) rfl (fun ls hl => ?_)
        refine lv_iinc (v := ((nI q) + 1)) (lv' := [(2, .int ((nI q) + 1)), (1, .int (nI q)), (0, .ref (ad 0))]) hx hb dX12_host_24 hl (k := 2) rfl rfl (by decide) rfl (fun ls hl => ?_)
        refine lv_goto (tgt := 4) hx hb dX12_host_27 (by decide) ?_
        exact ih_q ((q + 1), (ua σ 0 (upd (upd (upd (upd (σ 0) 9 (z16 0 9)) 10 (z16 0 10)) 11 (z16 0 11)) 12 (z16 0 12)))) (show (q + 1) ≤ 4 from (by omega)) (show 4 - (q + 1) < 4 - q from (by omega)) _ _ _ (hH.eq rfl) (lv_eq (lv_sub hl [2, 1, 0] rfl) (lc_s (lc_i (by first | (rw [hosA_f (Int32.not_lt.mpr c19)]; done) | (rw [hosA_t (Int32.not_le.mp c19)]; done) : (nI q) = (nI (hosA β (q + 1)))) (lc_i (by exact nI_1 _ : ((nI q) + 1) = (nI (q + 1))) rfl))))
  · exact hH.eq rfl
  · exact lv_eq (lv_sub hl [2, 1, 0] rfl) (lc_s (lc_i (by rw [hosA_1]; rfl : 0 = (nI (hosA β 1))) (lc_i (by rfl : 1 = (nI 1)) rfl)))
