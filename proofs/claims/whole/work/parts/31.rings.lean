/-! RINGS: what comes back to itself, told two ways -/
def Sm (x : Int32) : Prop := ∃ q, q < 64 ∧ x = nI q
theorem smOr : ∀ a, a < 64 → ∀ b, b < 64 → nI a ||| nI b = nI (a ||| b) := by decide +kernel
theorem smTb : ∀ q, q < 64 → ∀ o, o < 6 → decide ((nI q >>> (nI o &&& 31)) &&& 1 = 1) = q.testBit o := by decide +kernel
theorem smAnd : ∀ q, q < 64 → ∀ o, o < 6 → nI q &&& ((1 : Int32) <<< (nI o &&& 31)) = if (nI q >>> (nI o &&& 31)) &&& 1 = 1 then nI (2 ^ o) else 0 := by decide +kernel
theorem smSh : ∀ j, j < 6 → (1 : Int32) <<< (nI j &&& 31) = nI (2 ^ j) ∧ 2 ^ j < 64 := by decide
theorem smPc : ∀ a, a < 64 → ∀ b, b < 64 → ¬ a ||| b = b ∨ a = b ∨ popc 6 a < popc 6 b := by decide +kernel
theorem smP6 : ∀ q, q < 64 → popc 6 q ≤ 6 := by decide
theorem smP1 : ∀ q, q < 64 → q = 0 ∨ 1 ≤ popc 6 q := by decide
theorem tbT {q o : Nat} (hq : q < 64) (ho : o < 6) : tb (nI q) (nI o) ↔ q.testBit o = true := by
  rw [← smTb q hq o ho]
  exact (decide_eq_true_iff (p := (nI q >>> (nI o &&& 31)) &&& 1 = 1)).symm
theorem Sm.or {x y : Int32} (hx : Sm x) (hy : Sm y) : Sm (x ||| y) := by
  obtain ⟨a, ha, rfl⟩ := hx
  obtain ⟨b, hb, rfl⟩ := hy
  exact ⟨a ||| b, Nat.or_lt_two_pow (n := 6) ha hb, smOr a ha b hb⟩
theorem tb_or {x y : Int32} {o : Nat} (hx : Sm x) (hy : Sm y) (ho : o < 6) : tb (x ||| y) (nI o) ↔ tb x (nI o) ∨ tb y (nI o) := by
  obtain ⟨a, ha, rfl⟩ := hx
  obtain ⟨b, hb, rfl⟩ := hy
  rw [smOr a ha b hb, tbT (Nat.or_lt_two_pow (n := 6) ha hb) ho, tbT ha ho, tbT hb ho, Nat.testBit_or, Bool.or_eq_true]
theorem sm_ext {x y : Int32} (hx : Sm x) (hy : Sm y) (h : ∀ o, o < 6 → (tb x (nI o) ↔ tb y (nI o))) : x = y := by
  obtain ⟨a, ha, rfl⟩ := hx
  obtain ⟨b, hb, rfl⟩ := hy
  congr 1
  apply Nat.eq_of_testBit_eq
  intro o
  by_cases ho : o < 6
  · have := h o ho
    rw [tbT ha ho, tbT hb ho] at this
    cases h1 : a.testBit o <;> cases h2 : b.testBit o <;> simp [h1, h2] at this ⊢
  · have p : 64 ≤ 2 ^ o := by
      have := Nat.pow_le_pow_right (n := 2) (by omega) (show 6 ≤ o by omega)
      omega
    rw [Nat.testBit_lt_two_pow (by omega), Nat.testBit_lt_two_pow (by omega)]
def Qp (E : Nat → Nat → Prop) : Nat → Nat → Nat → Prop
  | 0, i, j => E i j
  | m + 1, i, j => Qp E m i j ∨ (Qp E m i m ∧ Qp E m m j)
theorem Qp_tr {E : Nat → Nat → Prop} : ∀ m l i j, l < m → Qp E m i l → Qp E m l j → Qp E m i j := by
  intro m
  induction m with
  | zero => intro l i j h; exact absurd h (Nat.not_lt_zero _)
  | succ m ih =>
    intro l i j hl h1 h2
    by_cases e : l = m
    · subst e
      have g1 : Qp E l i l := h1.elim id (fun z => z.1)
      have g2 : Qp E l l j := h2.elim id (fun z => z.2)
      exact Or.inr ⟨g1, g2⟩
    · have hl' : l < m := by omega
      rcases h1 with h1 | ⟨h1, h1'⟩ <;> rcases h2 with h2 | ⟨h2, h2'⟩
      · exact Or.inl (ih l i j hl' h1 h2)
      · exact Or.inr ⟨ih l i m hl' h1 h2, h2'⟩
      · exact Or.inr ⟨h1, ih l m j hl' h1' h2⟩
      · exact Or.inr ⟨h1, h2'⟩
theorem Qp_up {E : Nat → Nat → Prop} {i j : Nat} (h : E i j) : ∀ m, Qp E m i j := by
  intro m
  induction m with
  | zero => exact h
  | succ m ih => exact Or.inl ih
section RNG
variable {R : Nat → Int32} {k : Nat}
abbrev Eg (R : Nat → Int32) (i j : Nat) : Prop := tb (R i) (nI j)
theorem wa_row {E : Nat → Nat → Prop} {X : Nat → Int32} {m : Nat} (hk : k ≤ 6) (hm : m < k) (hX : ∀ i, i < k → Sm (X i) ∧ ∀ j, j < 6 → (tb (X i) (nI j) ↔ Qp E m i j)) : ∀ n, n ≤ k → ∀ i, i < k → (i < n → Sm (waI X m n i) ∧ ∀ j, j < 6 → (tb (waI X m n i) (nI j) ↔ Qp E (m + 1) i j)) ∧ (n ≤ i → waI X m n i = X i) := by
  intro n
  induction n with
  | zero => intro _ i hi; exact ⟨fun h => absurd h (Nat.not_lt_zero _), fun _ => rfl⟩
  | succ n ih =>
    intro hn i hi
    have ihn := ih (by omega)
    have en : waI X m n n = X n := (ihn n (by omega)).2 (Nat.le_refl _)
    have rm : Sm (waI X m n m) ∧ ∀ j, j < 6 → (tb (waI X m n m) (nI j) ↔ Qp E m m j) := by
      by_cases q : m < n
      · obtain ⟨s, t⟩ := (ihn m hm).1 q
        refine ⟨s, fun j hj => (t j hj).trans ⟨fun z => z.elim id (fun y => y.2), Or.inl⟩⟩
      · rw [(ihn m hm).2 (by omega)]; exact hX m hm
    by_cases c : tb (waI X m n n) (nI m)
    · rw [← waI_t c]
      have c' : Qp E m n m := by
        rw [en] at c
        exact ((hX n (by omega)).2 m (by omega)).mp c
      constructor
      · intro hin
        by_cases e : i = n
        · subst e
          rw [pk_us, en]
          refine ⟨(hX i hi).1.or rm.1, fun j hj => ?_⟩
          rw [tb_or (hX i hi).1 rm.1 hj, (hX i hi).2 j hj, rm.2 j hj]
          exact ⟨fun z => z.elim Or.inl (fun y => Or.inr ⟨c', y⟩), fun z => z.elim Or.inl (fun y => Or.inr y.2)⟩
        · rw [pk_un e]; exact (ihn i hi).1 (by omega)
      · intro hni
        rw [pk_un (by omega)]; exact (ihn i hi).2 (by omega)
    · rw [← waI_f c]
      have c' : ¬ Qp E m n m := by
        rw [en] at c
        exact fun z => c (((hX n (by omega)).2 m (by omega)).mpr z)
      constructor
      · intro hin
        by_cases e : i = n
        · subst e
          rw [en]
          refine ⟨(hX i hi).1, fun j hj => ?_⟩
          rw [(hX i hi).2 j hj]
          exact ⟨Or.inl, fun z => z.elim id (fun y => absurd y.1 c')⟩
        · exact (ihn i hi).1 (by omega)
      · intro hni; exact (ihn i hi).2 (by omega)
theorem wa_all (hk : k ≤ 6) (hR : ∀ i, i < k → Sm (R i)) : ∀ m, m ≤ k → ∀ i, i < k → Sm (waO R k m i) ∧ ∀ j, j < 6 → (tb (waO R k m i) (nI j) ↔ Qp (Eg R) m i j) := by
  intro m
  induction m with
  | zero => intro _ i hi; exact ⟨hR i hi, fun j _ => Iff.rfl⟩
  | succ m ih =>
    intro hm i hi
    exact (wa_row hk (by omega) (ih (by omega)) k (Nat.le_refl _) i hi).1 hi
end RNG
section RNF
variable {β : Bk}
def Cls (β : Bk) (s : Int32) : Prop := ∀ o, o < bK β → tb s (nI o) → ∀ j, j < 6 → tb (mkA β o) (nI j) → tb s (nI j)
theorem rgI_sm (hA : ∀ o, o < bK β → Sm (mkA β o)) {s : Int32} (hs : Sm s) : ∀ n, n ≤ bK β → Sm (rgI β s n) := by
  intro n
  induction n with
  | zero => intro _; exact hs
  | succ n ih =>
    intro hn
    by_cases c : tb (rgI β s n) (nI n)
    · rw [rgI_t c]; exact (ih (by omega)).or (hA n (by omega))
    · rw [rgI_f c]; exact ih (by omega)
theorem rgI_mono (hA : ∀ o, o < bK β → Sm (mkA β o)) {s : Int32} (hs : Sm s) {j : Nat} (hj : j < 6) : ∀ n m, n ≤ m → m ≤ bK β → tb (rgI β s n) (nI j) → tb (rgI β s m) (nI j) := by
  intro n m
  induction m with
  | zero => intro h _ z; rw [show n = 0 by omega] at z; exact z
  | succ m ih =>
    intro h hm z
    by_cases e : n = m + 1
    · subst e; exact z
    · have q := ih (by omega) (by omega) z
      by_cases c : tb (rgI β s m) (nI m)
      · rw [rgI_t c, tb_or (rgI_sm hA hs m (by omega)) (hA m (by omega)) hj]; exact Or.inl q
      · rw [rgI_f c]; exact q
theorem rgI_snd (hA : ∀ o, o < bK β → Sm (mkA β o)) (hk : bK β ≤ 6) {s : Int32} (hs : Sm s) {T : Nat → Prop} (h0 : ∀ j, j < 6 → tb s (nI j) → T j) (hT : ∀ o, o < bK β → ∀ j, j < 6 → T o → tb (mkA β o) (nI j) → T j) : ∀ n, n ≤ bK β → ∀ j, j < 6 → tb (rgI β s n) (nI j) → T j := by
  intro n
  induction n with
  | zero => intro _ j hj z; exact h0 j hj z
  | succ n ih =>
    intro hn j hj z
    by_cases c : tb (rgI β s n) (nI n)
    · rw [rgI_t c, tb_or (rgI_sm hA hs n (by omega)) (hA n (by omega)) hj] at z
      rcases z with z | z
      · exact ih (by omega) j hj z
      · exact hT n (by omega) j hj (ih (by omega) n (by omega) c) z
    · rw [rgI_f c] at z; exact ih (by omega) j hj z
theorem rgI_cls (hA : ∀ o, o < bK β → Sm (mkA β o)) (hk : bK β ≤ 6) {s : Int32} (hs : Sm s) (h : rgI β s (bK β) = s) : Cls β s := by
  intro o ho z j hj y
  have c : tb (rgI β s o) (nI o) := rgI_mono hA hs (by omega) 0 o (Nat.zero_le _) (by omega) z
  have q : tb (rgI β s (o + 1)) (nI j) := by
    rw [rgI_t c, tb_or (rgI_sm hA hs o (by omega)) (hA o ho) hj]; exact Or.inr y
  have w := rgI_mono hA hs hj (o + 1) (bK β) (by omega) (Nat.le_refl _) q
  rw [h] at w; exact w
theorem rgI_fix (hA : ∀ o, o < bK β → Sm (mkA β o)) (hk : bK β ≤ 6) {s : Int32} (hs : Sm s) (h : Cls β s) : ∀ n, n ≤ bK β → rgI β s n = s := by
  intro n
  induction n with
  | zero => intro _; rfl
  | succ n ih =>
    intro hn
    have q := ih (by omega)
    by_cases c : tb (rgI β s n) (nI n)
    · rw [rgI_t c, q]
      rw [q] at c
      refine sm_ext (hs.or (hA n (by omega))) hs (fun o ho => ?_)
      rw [tb_or hs (hA n (by omega)) ho]
      exact ⟨fun z => z.elim id (fun y => h n (by omega) c o ho y), Or.inl⟩
    · rw [rgI_f c]; exact q
theorem rgO_all (hA : ∀ o, o < bK β → Sm (mkA β o)) (hk : bK β ≤ 6) {s : Int32} (hs : Sm s) : ∀ r, Sm (rgO β s r) ∧ (Cls β (rgO β s r) ∨ ∃ q, q < 64 ∧ rgO β s r = nI q ∧ r + 1 ≤ popc 6 q) := by
  intro r
  induction r with
  | zero =>
    refine ⟨hs, ?_⟩
    obtain ⟨q, hq, e⟩ := hs
    rcases smP1 q hq with z | z
    · refine Or.inl (fun o ho y => ?_)
      have y : tb s (nI o) := y
      rw [e, z, tbT (by decide) (by omega), Nat.zero_testBit] at y
      cases y
    · exact Or.inr ⟨q, hq, e, by omega⟩
  | succ r ih =>
    obtain ⟨h1, h2⟩ := ih
    have h3 : Sm (rgO β s (r + 1)) := rgI_sm hA h1 _ (Nat.le_refl _)
    refine ⟨h3, ?_⟩
    rcases h2 with h2 | ⟨q, hq, e, hp⟩
    · refine Or.inl ?_
      show Cls β (rgI β (rgO β s r) (bK β))
      rw [rgI_fix hA hk h1 h2 _ (Nat.le_refl _)]; exact h2
    · by_cases c : rgI β (rgO β s r) (bK β) = rgO β s r
      · refine Or.inl ?_
        show Cls β (rgI β (rgO β s r) (bK β))
        rw [c]; exact rgI_cls hA hk h1 c
      · obtain ⟨q', hq', e'⟩ := h3
        refine Or.inr ⟨q', hq', e', ?_⟩
        have e'' : rgI β (rgO β s r) (bK β) = nI q' := e'
        have sub : q ||| q' = q' := by
          apply Nat.eq_of_testBit_eq
          intro o
          rw [Nat.testBit_or]
          by_cases ho : o < 6
          · have m := rgI_mono hA h1 ho 0 (bK β) (Nat.zero_le _) (Nat.le_refl _)
            rw [e''] at m
            have m : tb (rgO β s r) (nI o) → tb (nI q') (nI o) := m
            rw [e, tbT hq ho, tbT hq' ho] at m
            cases h5 : q.testBit o with
            | false => rfl
            | true => rw [m h5]; rfl
          · have p : 64 ≤ 2 ^ o := by
              have := Nat.pow_le_pow_right (n := 2) (by omega) (show 6 ≤ o by omega)
              omega
            rw [Nat.testBit_lt_two_pow (show q < 2 ^ o by omega), Nat.testBit_lt_two_pow (show q' < 2 ^ o by omega)]; rfl
        rcases (smPc q hq q' hq').resolve_left (fun z => z sub) with z | z
        · exact absurd (e''.trans (by rw [← z]; exact e.symm)) c
        · omega
theorem rgO_cls (hA : ∀ o, o < bK β → Sm (mkA β o)) (hk : bK β ≤ 6) {s : Int32} (hs : Sm s) : Cls β (rgO β s 6) := by
  rcases (rgO_all hA hk hs 6).2 with h | ⟨q, hq, -, h⟩
  · exact h
  · exact absurd (smP6 q hq) (by omega)
theorem rgO_up (hA : ∀ o, o < bK β → Sm (mkA β o)) (hk : bK β ≤ 6) {s : Int32} (hs : Sm s) {j : Nat} (hj : j < 6) (h : tb s (nI j)) : ∀ r, tb (rgO β s r) (nI j) := by
  intro r
  induction r with
  | zero => exact h
  | succ r ih => exact rgI_mono hA (rgO_all hA hk hs r).1 hj 0 _ (Nat.zero_le _) (Nat.le_refl _) ih
theorem rgO_snd (hA : ∀ o, o < bK β → Sm (mkA β o)) (hk : bK β ≤ 6) {s : Int32} (hs : Sm s) {T : Nat → Prop} (h0 : ∀ j, j < 6 → tb s (nI j) → T j) (hT : ∀ o, o < bK β → ∀ j, j < 6 → T o → tb (mkA β o) (nI j) → T j) : ∀ r, ∀ j, j < 6 → tb (rgO β s r) (nI j) → T j := by
  intro r
  induction r with
  | zero => exact h0
  | succ r ih => exact rgI_snd hA hk (rgO_all hA hk hs r).1 ih hT _ (Nat.le_refl _)
theorem rg_Q (hA : ∀ o, o < bK β → Sm (mkA β o)) (hk : bK β ≤ 6) {b : Nat} (hb : b < bK β) {j : Nat} (hj : j < 6) : tb (rgO β (mkA β b) 6) (nI j) ↔ Qp (Eg (mkA β)) (bK β) b j := by
  constructor
  · intro z
    refine rgO_snd hA hk (hA b hb) (T := fun j => Qp (Eg (mkA β)) (bK β) b j) (fun j _ y => Qp_up (E := Eg (mkA β)) y _) (fun o ho j _ y w => ?_) 6 j hj z
    exact Qp_tr _ o b j ho y (Qp_up (E := Eg (mkA β)) w _)
  · have cl := rgO_cls hA hk (hA b hb)
    have key : ∀ m, m ≤ bK β → ∀ i, (∀ j, j < 6 → tb (mkA β i) (nI j) → tb (rgO β (mkA β b) 6) (nI j)) → ∀ j, j < 6 → Qp (Eg (mkA β)) m i j → tb (rgO β (mkA β b) 6) (nI j) := by
      intro m
      induction m with
      | zero => intro _ i hi j hj z; exact hi j hj z
      | succ m ih =>
        intro hm i hi j hj z
        rcases z with z | ⟨z1, z2⟩
        · exact ih (by omega) i hi j hj z
        · have t := ih (by omega) i hi m (by omega) z1
          exact ih (by omega) m (fun j' hj' y => cl m (by omega) t j' hj' y) j hj z2
    exact key _ (Nat.le_refl _) b (fun j hj y => rgO_up hA hk (hA b hb) hj y 6) j hj
end RNF
theorem bb_in {m : Int32} {k : Nat} (hk : k ≤ 6) : (10 ≤ m ∧ inb (m - 10) k) ↔ inb (m - 10) k := by
  refine ⟨fun z => z.2, fun z => ⟨?_, z⟩⟩
  obtain ⟨j, hj, e⟩ := inb_of (k := k) (by omega) z
  have e2 : m = nI j + 10 := by rw [← e, Int32.sub_add_cancel]
  rw [e2, show nI j + 10 = nI (j + 10) from nI_add j 10]
  exact (nI_leI (a := 10) (b := j + 10) (by omega) (by omega)).mpr (by omega)
theorem mk_bb {β : Bk} (hk : bK β ≤ 6) (b w : Nat) (s : Int32) : mk1 β b w s = s ||| bbF (bK β) (nm β b w) := by
  unfold mk1 bbF
  by_cases h : inb (nm β b w - 10) (bK β)
  · rw [cI_t ((bb_in hk).mpr h), cI_t h]
  · rw [cI_f (fun z => h z.2), cI_f h, i_or0]
theorem mk_la {β : Bk} (hk : bK β ≤ 6) (hkd : KD (bN β) (bK β)) {b : Nat} (hb : b < bK β) : mkA β b = laF β b := by
  have z0 : ∀ x : Int32, 0 ||| x = x := fun x => by rw [Int32.or_comm]; exact i_or0 x
  unfold mkA laF
  rw [mk_bb hk, mk_bb hk, z0]
  have h : nm β b 0 = 0 ∨ nm β b 0 = 1 ∨ nm β b 0 = 2 ∨ nm β b 0 = 3 ∨ nm β b 0 = 4 ∨ nm β b 0 = 5 := hkd b hb
  rcases h with e | e | e | e | e | e <;> rw [e] <;> rfl
theorem bb_sm {k : Nat} (hk : k ≤ 6) (m : Int32) : Sm (bbF k m) := by
  unfold bbF
  by_cases h : inb (m - 10) k
  · rw [cI_t h]
    obtain ⟨j, hj, e⟩ := inb_of (k := k) (by omega) h
    rw [e]
    obtain ⟨s1, s2⟩ := smSh j (by omega)
    exact ⟨2 ^ j, s2, s1⟩
  · rw [cI_f h]; exact ⟨0, by decide, rfl⟩
theorem la_sm {β : Bk} (hk : bK β ≤ 6) (b : Nat) : Sm (laF β b) := by
  unfold laF
  split
  · exact bb_sm hk _
  · exact (bb_sm hk _).or (bb_sm hk _)
theorem ring_meet {β : Bk} {ρ : Nat → Int32} (hk : bK β ≤ 6) (hkd : KD (bN β) (bK β)) : waA (waO (cpyF (laF β) ρ (bK β)) (bK β) (bK β)) (bK β) = rgA β (bK β) := by
  have hA : ∀ o, o < bK β → Sm (mkA β o) := fun o ho => by rw [mk_la hk hkd ho]; exact la_sm hk o
  have hR : ∀ i, i < bK β → Sm (cpyF (laF β) ρ (bK β) i) := fun i hi => by rw [cpyF_in _ _ hi]; exact la_sm hk i
  have wall := wa_all hk hR (bK β) (Nat.le_refl _)
  have eq : ∀ m, m ≤ bK β → ∀ i, i < bK β → ∀ j, Qp (Eg (cpyF (laF β) ρ (bK β))) m i j ↔ Qp (Eg (mkA β)) m i j := by
    intro m
    induction m with
    | zero =>
      intro _ i hi j
      show tb (cpyF (laF β) ρ (bK β) i) (nI j) ↔ tb (mkA β i) (nI j)
      rw [cpyF_in _ _ hi, mk_la hk hkd hi]
    | succ m ih =>
      intro hm i hi j
      have a1 := ih (by omega) i hi j
      have a2 := ih (by omega) i hi m
      have a3 := ih (by omega) m (by omega) j
      show (_ ∨ (_ ∧ _)) ↔ (_ ∨ (_ ∧ _))
      rw [a1, a2, a3]
  have key : ∀ b, b ≤ bK β → waA (waO (cpyF (laF β) ρ (bK β)) (bK β) (bK β)) b = rgA β b := by
    intro b
    induction b with
    | zero => intro _; rfl
    | succ b ih =>
      intro hb
      rw [waA, rgA, ih (by omega)]
      congr 1
      obtain ⟨⟨q, hq, e⟩, t⟩ := wall b (by omega)
      obtain ⟨q', hq', e'⟩ := (rgO_all hA hk (hA b (by omega)) 6).1
      have t1 := t b (by omega)
      have t2 := rg_Q hA hk (b := b) (by omega) (j := b) (by omega)
      rw [eq _ (Nat.le_refl _) b (by omega) b, ← t2, e, e'] at t1
      rw [e, e', smAnd q hq b (by omega), smAnd q' hq' b (by omega)]
      by_cases c : tb (nI q') (nI b)
      · rw [if_pos (show (nI q >>> (nI b &&& 31)) &&& 1 = 1 from t1.mpr c), if_pos (show (nI q' >>> (nI b &&& 31)) &&& 1 = 1 from c)]
      · rw [if_neg (show ¬ (nI q >>> (nI b &&& 31)) &&& 1 = 1 from fun z => c (t1.mp z)), if_neg (show ¬ (nI q' >>> (nI b &&& 31)) &&& 1 = 1 from c)]
  exact key _ (Nat.le_refl _)
