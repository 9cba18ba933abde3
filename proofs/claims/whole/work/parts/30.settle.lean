/-! SETTLING: most groups, and fewest payments, are one -/
def GBp (β : Bk) : Prop := ∀ b, b < bK β → (0 ≤ nm β b 5 ∧ nm β b 5 < 4) ∧ (0 ≤ nm β b 6 ∧ nm β b 6 < 4) ∧ ¬ nm β b 5 = nm β b 6
noncomputable def ySt (β : Bk) (e : Int32) (b : Nat) : Int32 := if stP β e b = 1 then nm β b 3 * nm β b 4 else if stP β e b = 0 then -nm β b 3 else 0
theorem dlt_y (β : Bk) (p e : Int32) (b : Nat) : dltR β p e b = sideR β p b * ySt β e b := by
  unfold dltR ySt
  split
  · rw [Int32.mul_assoc]
  · split
    · rw [Int32.neg_mul, Int32.mul_neg]
    · rw [Int32.mul_zero]
theorem side_s {β : Bk} {b : Nat} (h5 : 0 ≤ nm β b 5 ∧ nm β b 5 < 4) (h6 : 0 ≤ nm β b 6 ∧ nm β b 6 < 4) (hn : ¬ nm β b 5 = nm β b 6) : sideR β (nI 0) b + sideR β (nI 1) b + sideR β (nI 2) b + sideR β (nI 3) b = 0 := by
  obtain ⟨i, hi, e5⟩ := inb_of (k := 4) (by omega) h5
  obtain ⟨j, hj, e6⟩ := inb_of (k := 4) (by omega) h6
  unfold sideR
  rw [e5, e6] at hn ⊢
  have key : ∀ i, i < 4 → ∀ j, j < 4 → nI i = nI j ∨ (if nI i = nI 0 then (1 : Int32) else if nI j = nI 0 then -1 else 0) + (if nI i = nI 1 then (1 : Int32) else if nI j = nI 1 then -1 else 0) + (if nI i = nI 2 then (1 : Int32) else if nI j = nI 2 then -1 else 0) + (if nI i = nI 3 then (1 : Int32) else if nI j = nI 3 then -1 else 0) = 0 := by decide
  exact (key i hi j hj).resolve_left hn
theorem dlt_s {β : Bk} {e : Int32} {b : Nat} (h5 : 0 ≤ nm β b 5 ∧ nm β b 5 < 4) (h6 : 0 ≤ nm β b 6 ∧ nm β b 6 < 4) (hn : ¬ nm β b 5 = nm β b 6) : dltR β (nI 0) e b + dltR β (nI 1) e b + dltR β (nI 2) e b + dltR β (nI 3) e b = 0 := by
  rw [dlt_y, dlt_y, dlt_y, dlt_y, ← Int32.add_mul, ← Int32.add_mul, ← Int32.add_mul, side_s h5 h6 hn, Int32.zero_mul]
theorem add8 (a b c d x y z w : Int32) : a + x + (b + y) + (c + z) + (d + w) = (a + b + c + d) + (x + y + z + w) := by
  ac_rfl
theorem pur_s {β : Bk} (h : GBp β) (e : Int32) : ∀ b, b ≤ bK β → purR β (nI 0) e b + purR β (nI 1) e b + purR β (nI 2) e b + purR β (nI 3) e b = 0 := by
  intro b
  induction b with
  | zero => intro _; show (0 : Int32) + 0 + 0 + 0 = 0; decide
  | succ b ih =>
    intro hb
    obtain ⟨h5, h6, hn⟩ := h b (by omega)
    show purR β (nI 0) e b + dltR β (nI 0) e b + (purR β (nI 1) e b + dltR β (nI 1) e b) + (purR β (nI 2) e b + dltR β (nI 2) e b) + (purR β (nI 3) e b + dltR β (nI 3) e b) = 0
    rw [add8, ih (by omega), dlt_s h5 h6 hn]
    decide
def tbb (x p : Nat) : Bool := decide ((nI x >>> (nI p &&& 31)) &&& 1 = 1)
theorem tbD : ∀ a, a < 16 → ∀ b, b < 16 → ∀ p, p < 4 → (!(a &&& b == 0) || (tbb (a ||| b) p == (tbb a p || tbb b p) && !(tbb a p && tbb b p))) = true := by decide +kernel
theorem tbDc {a b p : Nat} (ha : a < 16) (hb : b < 16) (hp : p < 4) (hd : a &&& b = 0) : (tb (nI (a ||| b)) (nI p) ∧ tb (nI a) (nI p) ∧ ¬ tb (nI b) (nI p)) ∨ (tb (nI (a ||| b)) (nI p) ∧ ¬ tb (nI a) (nI p) ∧ tb (nI b) (nI p)) ∨ (¬ tb (nI (a ||| b)) (nI p) ∧ ¬ tb (nI a) (nI p) ∧ ¬ tb (nI b) (nI p)) := by
  have k := tbD a ha b hb p hp
  have e : ∀ x, tb (nI x) (nI p) ↔ tbb x p = true := fun x => (decide_eq_true_iff (p := (nI x >>> (nI p &&& 31)) &&& 1 = 1)).symm
  simp only [e]
  rw [hd] at k
  cases h1 : tbb (a ||| b) p <;> cases h2 : tbb a p <;> cases h3 : tbb b p <;> simp [h1, h2, h3] at k ⊢
theorem sumS_or {β : Bk} {e : Int32} {a b : Nat} (ha : a < 16) (hb : b < 16) (hd : a &&& b = 0) : ∀ i, i ≤ 4 → sumS β (nI (a ||| b)) e i = sumS β (nI a) e i + sumS β (nI b) e i := by
  intro i
  induction i with
  | zero => intro _; show (0 : Int32) = 0 + 0; decide
  | succ i ih =>
    intro hi
    have q := ih (by omega)
    have ac1 : ∀ x y z : Int32, x + y + z = x + z + (y + 0) := by intro x y z; rw [Int32.add_zero]; ac_rfl
    have ac2 : ∀ x y z : Int32, x + y + z = x + 0 + (y + z) := by intro x y z; rw [Int32.add_zero]; ac_rfl
    rcases tbDc ha hb (show i < 4 by omega) hd with ⟨h1, h2, h3⟩ | ⟨h1, h2, h3⟩ | ⟨h1, h2, h3⟩
    · rw [sumS_t h1, sumS_t h2, sumS_f h3, q]; exact ac1 _ _ _
    · rw [sumS_t h1, sumS_f h2, sumS_t h3, q]; exact ac2 _ _ _
    · rw [sumS_f h1, sumS_f h2, sumS_f h3, q, Int32.add_zero, Int32.add_zero, Int32.add_zero]
theorem sum_15 {β : Bk} (h : GBp β) (e : Int32) : sumS β (nI 15) e 4 = 0 := by
  have t : ∀ p, p < 4 → (nI 15 >>> (nI p &&& 31)) &&& 1 = 1 := by decide
  rw [sumS_t (t 3 (by decide)), sumS_t (t 2 (by decide)), sumS_t (t 1 (by decide)), sumS_t (t 0 (by decide))]
  show (0 : Int32) + purR β (nI 0) e (bK β) + purR β (nI 1) e (bK β) + purR β (nI 2) e (bK β) + purR β (nI 3) e (bK β) = 0
  rw [Int32.zero_add]
  exact pur_s h e _ (Nat.le_refl _)
theorem sum_p {β : Bk} {e : Int32} : sumS β (nI 1) e 4 = purA β (nI 0) e ∧ sumS β (nI 2) e 4 = purA β (nI 1) e ∧ sumS β (nI 4) e 4 = purA β (nI 2) e ∧ sumS β (nI 8) e 4 = purA β (nI 3) e := by
  have f : ∀ k, k < 4 → ∀ p, p < 4 → k = p ∨ ¬ (nI (2 ^ k) >>> (nI p &&& 31)) &&& 1 = 1 := by decide
  have t : ∀ k, k < 4 → (nI (2 ^ k) >>> (nI k &&& 31)) &&& 1 = 1 := by decide
  have n : ∀ k, k < 4 → ∀ p, p < 4 → ¬ k = p → ¬ tb (nI (2 ^ k)) (nI p) := fun k hk p hp h => (f k hk p hp).resolve_left h
  have z0 : ∀ s : Int32, sumS β s e 0 = 0 := fun _ => rfl
  refine ⟨?_, ?_, ?_, ?_⟩
  · rw [show nI 1 = nI (2 ^ 0) from rfl, sumS_f (n 0 (by decide) 3 (by decide) (by decide)), sumS_f (n 0 (by decide) 2 (by decide) (by decide)), sumS_f (n 0 (by decide) 1 (by decide) (by decide)), sumS_t (t 0 (by decide)), z0, Int32.zero_add, Int32.add_zero, Int32.add_zero, Int32.add_zero]
  · rw [show nI 2 = nI (2 ^ 1) from rfl, sumS_f (n 1 (by decide) 3 (by decide) (by decide)), sumS_f (n 1 (by decide) 2 (by decide) (by decide)), sumS_t (t 1 (by decide)), sumS_f (n 1 (by decide) 0 (by decide) (by decide)), z0, Int32.zero_add, Int32.add_zero, Int32.add_zero, Int32.zero_add]
  · rw [show nI 4 = nI (2 ^ 2) from rfl, sumS_f (n 2 (by decide) 3 (by decide) (by decide)), sumS_t (t 2 (by decide)), sumS_f (n 2 (by decide) 1 (by decide) (by decide)), sumS_f (n 2 (by decide) 0 (by decide) (by decide)), z0, Int32.zero_add, Int32.add_zero, Int32.add_zero, Int32.zero_add]
  · rw [show nI 8 = nI (2 ^ 3) from rfl, sumS_t (t 3 (by decide)), sumS_f (n 3 (by decide) 2 (by decide) (by decide)), sumS_f (n 3 (by decide) 1 (by decide) (by decide)), sumS_f (n 3 (by decide) 0 (by decide) (by decide)), z0, Int32.zero_add, Int32.add_zero, Int32.add_zero, Int32.zero_add]
/-! both sides by a row of truths -/
def cgB (g : Nat → Int32) (s : Nat) : Nat → Int32
  | 0 => 0
  | p + 1 => if (nI s >>> (nI p &&& 31)) &&& 1 = 1 then mx32 (cgB g s p) (g (s - 2 ^ p)) else cgB g s p
def cgV (z : Nat → Bool) (g : Nat → Int32) (s : Nat) : Int32 := if z s then cgB g s 4 + 1 else cgB g s 4
def cgG (z : Nat → Bool) (g : Nat → Int32) : Nat → Nat → Int32
  | 0 => g
  | s + 1 => if s = 0 then g else upd (cgG z g s) s (cgV z (cgG z g s) s)
theorem cgB_e (g : Nat → Int32) (s : Nat) : ∀ p, mgB g s p = cgB g s p := by
  intro p
  induction p with
  | zero => rfl
  | succ p ih =>
    by_cases h : (nI s >>> (nI p &&& 31)) &&& 1 = 1
    · rw [← mgB_t h, cgB, if_pos h, ih]
    · rw [← mgB_f h, cgB, if_neg h, ih]
theorem cgG_e {β : Bk} {e : Int32} {z : Nat → Bool} (hz : ∀ s, s < 16 → (sumS β (nI s) e 4 = 0 ↔ z s = true)) (g : Nat → Int32) : ∀ s, s ≤ 16 → mgG β e g s = cgG z g s := by
  intro s
  induction s with
  | zero => intro _; rfl
  | succ s ih =>
    intro hs
    rw [mgG, cgG, ih (by omega)]
    by_cases h : s = 0
    · rw [if_pos h, if_pos h]
    · rw [if_neg h, if_neg h]
      congr 1
      unfold mgV cgV
      rw [cgB_e]
      by_cases q : z s = true
      · rw [if_pos ((hz s (by omega)).mpr q), if_pos q]
      · rw [if_neg (fun y => q ((hz s (by omega)).mp y)), if_neg q]
theorem cgB_c {g g' : Nat → Int32} {s : Nat} (h : ∀ j, j < s → g j = g' j) (hs : 0 < s) : ∀ p, cgB g s p = cgB g' s p := by
  intro p
  induction p with
  | zero => rfl
  | succ p ih =>
    have := Nat.one_le_two_pow (n := p)
    rw [cgB, cgB, ih, h (s - 2 ^ p) (by omega)]
theorem cgG_c {z : Nat → Bool} {g g' : Nat → Int32} (h0 : g 0 = g' 0) : ∀ s, ∀ j, j < s → cgG z g s j = cgG z g' s j := by
  intro s
  induction s with
  | zero => intro j hj; exact absurd hj (Nat.not_lt_zero _)
  | succ s ih =>
    intro j hj
    rw [cgG, cgG]
    by_cases h : s = 0
    · subst h
      rw [if_pos rfl, if_pos rfl, show j = 0 by omega]; exact h0
    · rw [if_neg h, if_neg h]
      by_cases q : j = s
      · subst q
        rw [pk_us, pk_us]
        unfold cgV
        rw [cgB_c ih (by omega)]
      · rw [pk_un q, pk_un q]; exact ih j (by omega)
def clG (z : Nat → Bool) (g : Nat → Int32) (q : Nat) : Nat → Nat → Int32 → Int32
  | 0, _, m => m
  | f + 1, a, m => if a = 0 then m else clG z g q f ((a - 1) &&& q) (if a &&& lst q = 0 ∨ a = q ∨ z a = false then m else (if m < 1 + g (q &&& (15 ^^^ a)) then 1 + g (q &&& (15 ^^^ a)) else m))
def crp (z : Nat → Bool) : Nat → Nat → Int32
  | 0, _ => 0
  | D + 1, q => if q = 0 then 0 else clG z (crp z D) q 16 q 1
theorem clG_e {Z : Nat → Prop} {z : Nat → Bool} (hz : ∀ s, s < 16 → (Z s ↔ z s = true)) {g g' : Nat → Int32} {q : Nat} (hq : q < 16) (hg : ∀ j, j < 16 → g j = g' j) : ∀ f a m, a < 16 → lpG Z g q f a m = clG z g' q f a m := by
  intro f
  induction f with
  | zero => intro a m _; rfl
  | succ f ih =>
    intro a m ha
    rw [lpG, clG]
    by_cases h : a = 0
    · rw [if_pos h, if_pos h]
    · rw [if_neg h, if_neg h, hg _ (g_sub16 q hq a ha)]
      have ha' : (a - 1) &&& q < 16 := Nat.lt_of_le_of_lt Nat.and_le_right hq
      rw [ih _ _ ha']
      congr 1
      by_cases c : a &&& lst q = 0 ∨ a = q ∨ z a = false
      · rw [if_pos c, cI_t]
        rcases c with c | c | c
        · exact Or.inl c
        · exact Or.inr (Or.inl c)
        · exact Or.inr (Or.inr (fun y => by rw [(hz a ha).mp y] at c; cases c))
      · rw [if_neg c, cI_f]
        intro y
        refine c ?_
        rcases y with y | y | y
        · exact Or.inl y
        · exact Or.inr (Or.inl y)
        · refine Or.inr (Or.inr ?_)
          cases hh : z a with
          | false => rfl
          | true => exact absurd ((hz a ha).mpr hh) y
theorem crp_e {Z : Nat → Prop} {z : Nat → Bool} (hz : ∀ s, s < 16 → (Z s ↔ z s = true)) : ∀ D q, q < 16 → grp Z D q = crp z D q := by
  intro D
  induction D with
  | zero => intro q _; rfl
  | succ D ih =>
    intro q hq
    rw [grp, crp]
    by_cases h : q = 0
    · rw [if_pos h, if_pos h]
    · rw [if_neg h, if_neg h]
      exact clG_e hz hq ih 16 q 1 hq
def sec (z : Nat → Bool) : Nat := (if z 1 then 0 else 1) + (if z 2 then 0 else 2) + (if z 4 then 0 else 4) + (if z 8 then 0 else 8)
def zf (b1 b2 b4 b8 b3 b5 b6 : Bool) : Nat → Bool := fun s => match s with
  | 1 => b1 | 2 => b2 | 3 => b3 | 4 => b4 | 5 => b5 | 6 => b6 | 7 => b8 | 8 => b8 | 9 => b6 | 10 => b5 | 11 => b4 | 12 => b3 | 13 => b2 | 14 => b1 | _ => true
/-- what is nothing apart is nothing together -/
def zcl (z : Nat → Bool) : Bool := (List.range 16).all fun a => (List.range 16).all fun b => !(z a && z b && (a &&& b == 0)) || z (a ||| b)
theorem setD : ∀ b1 b2 b4 b8 b3 b5 b6 : Bool, zcl (zf b1 b2 b4 b8 b3 b5 b6) = false ∨ 4 - cgG (zf b1 b2 b4 b8 b3 b5 b6) (fun _ => 0) 16 15 = nI (popc 16 (sec (zf b1 b2 b4 b8 b3 b5 b6))) - crp (zf b1 b2 b4 b8 b3 b5 b6) 5 (sec (zf b1 b2 b4 b8 b3 b5 b6)) := by decide +kernel
theorem seN_z {β : Bk} {e : Int32} {z : Nat → Bool} (hz : ∀ s, s < 16 → (sumS β (nI s) e 4 = 0 ↔ z s = true)) : seN β e 4 = sec z := by
  obtain ⟨h1, h2, h3, h4⟩ := sum_p (β := β) (e := e)
  have q : ∀ (x : Int32) (b : Bool), (x = 0 ↔ b = true) → ∀ n k : Nat, (if x = 0 then n else n + k) = n + (if b then 0 else k) := by
    intro x b h n k
    by_cases hx : x = 0
    · rw [if_pos hx, if_pos (h.mp hx)]; rfl
    · rw [if_neg hx, if_neg (fun y => hx (h.mpr y))]
  show (if purA β (nI 3) e = 0 then seN β e 3 else seN β e 3 + 2 ^ 3) = _
  rw [q _ _ (by rw [← h4]; exact hz 8 (by decide))]
  show (if purA β (nI 2) e = 0 then seN β e 2 else seN β e 2 + 2 ^ 2) + _ = _
  rw [q _ _ (by rw [← h3]; exact hz 4 (by decide))]
  show (if purA β (nI 1) e = 0 then seN β e 1 else seN β e 1 + 2 ^ 1) + _ + _ = _
  rw [q _ _ (by rw [← h2]; exact hz 2 (by decide))]
  show (if purA β (nI 0) e = 0 then 0 else 0 + 2 ^ 0) + _ + _ + _ = _
  rw [q _ _ (by rw [← h1]; exact hz 1 (by decide)), Nat.zero_add]
  rfl
theorem set_meet {β : Bk} {e : Int32} {g : Nat → Int32} (h : GBp β) (hg : g 0 = 0) : 4 - (mgG β e g 16) 15 = setlA β e := by
  obtain ⟨z, hz⟩ : ∃ z : Nat → Bool, ∀ s, sumS β (nI s) e 4 = 0 ↔ z s = true := by
    refine ⟨fun s => @decide (sumS β (nI s) e 4 = 0) (Classical.propDecidable _), fun s => ?_⟩
    exact ⟨fun y => @decide_eq_true _ (Classical.propDecidable _) y, fun y => @of_decide_eq_true _ (Classical.propDecidable _) y⟩
  have hor : ∀ a, a < 16 → ∀ b, b < 16 → a &&& b = 0 → z a = true → z b = true → z (a ||| b) = true := by
    intro a ha b hb hd h1 h2
    rw [← hz, sumS_or ha hb hd 4 (Nat.le_refl _), (hz a).mpr h1, (hz b).mpr h2]
    decide
  have hc : ∀ a, a < 16 → z a = z (15 - a) := by
    intro a ha
    have d : ∀ a, a < 16 → a &&& (15 - a) = 0 ∧ a ||| (15 - a) = 15 := by decide
    obtain ⟨d1, d2⟩ := d a ha
    have s := sumS_or (β := β) (e := e) ha (show 15 - a < 16 by omega) d1 4 (Nat.le_refl _)
    rw [d2, sum_15 h] at s
    have t : sumS β (nI a) e 4 = 0 ↔ sumS β (nI (15 - a)) e 4 = 0 := by
      constructor
      · intro y; rw [y, Int32.zero_add] at s; exact s.symm
      · intro y; rw [y, Int32.add_zero] at s; exact s.symm
    rw [hz, hz] at t
    cases h1 : z a <;> cases h2 : z (15 - a) <;> simp [h1, h2] at t ⊢
  have h0 : z 0 = true := by
    rw [← hz]
    have f : ∀ p, p < 4 → ¬ (nI 0 >>> (nI p &&& 31)) &&& 1 = 1 := by decide
    rw [sumS_f (f 3 (by decide)), sumS_f (f 2 (by decide)), sumS_f (f 1 (by decide)), sumS_f (f 0 (by decide))]
    show (0 : Int32) + 0 + 0 + 0 + 0 = 0
    decide
  have ezf : ∀ s, s < 16 → z s = zf (z 1) (z 2) (z 4) (z 8) (z 3) (z 5) (z 6) s := by
    intro s hs
    match s, hs with
    | 0, _ => exact h0
    | 1, _ => rfl
    | 2, _ => rfl
    | 3, _ => rfl
    | 4, _ => rfl
    | 5, _ => rfl
    | 6, _ => rfl
    | 7, _ => exact hc 7 (by decide)
    | 8, _ => rfl
    | 9, _ => exact hc 9 (by decide)
    | 10, _ => exact hc 10 (by decide)
    | 11, _ => exact hc 11 (by decide)
    | 12, _ => exact hc 12 (by decide)
    | 13, _ => exact hc 13 (by decide)
    | 14, _ => exact hc 14 (by decide)
    | 15, _ => rw [hc 15 (by decide)]; exact h0
    | s + 16, hs => exact absurd hs (by omega)
  have hz2 : ∀ s, s < 16 → (sumS β (nI s) e 4 = 0 ↔ zf (z 1) (z 2) (z 4) (z 8) (z 3) (z 5) (z 6) s = true) := fun s hs => by rw [← ezf s hs]; exact hz s
  have hcl : ¬ zcl (zf (z 1) (z 2) (z 4) (z 8) (z 3) (z 5) (z 6)) = false := by
    intro y
    have : zcl (zf (z 1) (z 2) (z 4) (z 8) (z 3) (z 5) (z 6)) = true := by
      unfold zcl
      rw [List.all_eq_true]
      intro a ha
      rw [List.all_eq_true]
      intro b hb
      have ha := List.mem_range.mp ha
      have hb := List.mem_range.mp hb
      have hab : a ||| b < 16 := Nat.or_lt_two_pow (n := 4) ha hb
      rw [← ezf a ha, ← ezf b hb, ← ezf _ hab]
      cases h1 : z a with
      | false => rfl
      | true =>
        cases h2 : z b with
        | false => rfl
        | true =>
          by_cases hd : a &&& b = 0
          · rw [hor a ha b hb hd h1 h2, Bool.or_true]
          · simp [hd]
    rw [this] at y; cases y
  have key := (setD (z 1) (z 2) (z 4) (z 8) (z 3) (z 5) (z 6)).resolve_left hcl
  rw [cgG_e hz2 g 16 (Nat.le_refl _), cgG_c (g' := fun _ => 0) hg 16 15 (by decide), key]
  unfold setlA
  rw [seN_z hz2, crp_e (Z := zG β e) (z := zf (z 1) (z 2) (z 4) (z 8) (z 3) (z 5) (z 6)) hz2 5 _ (by rw [← seN_z hz2]; have := seN_lt β e 4; omega)]
