/-! the class: fitting -/
def us (x n : Int32) : Int32 := (x.toUInt32 >>> (n.toUInt32 &&& Int32.toUInt32 31)).toInt32
def bc1 (x : Int32) : Int32 := x - (us x 1 &&& 1431655765)
def bc2 (x : Int32) : Int32 := (x &&& 858993459) + (us x 2 &&& 858993459)
def bc3 (x : Int32) : Int32 := (x + us x 4) &&& 252645135
def bc4 (x : Int32) : Int32 := x + us x 8
def bc5 (x : Int32) : Int32 := x + us x 16
def bcW (x : Int32) : Int32 := bc5 (bc4 (bc3 (bc2 (bc1 x)))) &&& 63
theorem bcD0 : ∀ a, a < 16 → ∀ b, b < 16 → ∀ c, c < 16 → bcW (nI (0 + 256 * a + 16 * b + c)) = nI (popc 16 (0 + 256 * a + 16 * b + c)) := by decide +kernel
theorem bcD1 : ∀ a, a < 16 → ∀ b, b < 16 → ∀ c, c < 16 → bcW (nI (4096 + 256 * a + 16 * b + c)) = nI (popc 16 (4096 + 256 * a + 16 * b + c)) := by decide +kernel
theorem bcD2 : ∀ a, a < 16 → ∀ b, b < 16 → ∀ c, c < 16 → bcW (nI (8192 + 256 * a + 16 * b + c)) = nI (popc 16 (8192 + 256 * a + 16 * b + c)) := by decide +kernel
theorem bcD3 : ∀ a, a < 16 → ∀ b, b < 16 → ∀ c, c < 16 → bcW (nI (12288 + 256 * a + 16 * b + c)) = nI (popc 16 (12288 + 256 * a + 16 * b + c)) := by decide +kernel
theorem bcD4 : ∀ a, a < 16 → ∀ b, b < 16 → ∀ c, c < 16 → bcW (nI (16384 + 256 * a + 16 * b + c)) = nI (popc 16 (16384 + 256 * a + 16 * b + c)) := by decide +kernel
theorem bcD5 : ∀ a, a < 16 → ∀ b, b < 16 → ∀ c, c < 16 → bcW (nI (20480 + 256 * a + 16 * b + c)) = nI (popc 16 (20480 + 256 * a + 16 * b + c)) := by decide +kernel
theorem bcD6 : ∀ a, a < 16 → ∀ b, b < 16 → ∀ c, c < 16 → bcW (nI (24576 + 256 * a + 16 * b + c)) = nI (popc 16 (24576 + 256 * a + 16 * b + c)) := by decide +kernel
theorem bcD7 : ∀ a, a < 16 → ∀ b, b < 16 → ∀ c, c < 16 → bcW (nI (28672 + 256 * a + 16 * b + c)) = nI (popc 16 (28672 + 256 * a + 16 * b + c)) := by decide +kernel
theorem bcD8 : ∀ a, a < 16 → ∀ b, b < 16 → ∀ c, c < 16 → bcW (nI (32768 + 256 * a + 16 * b + c)) = nI (popc 16 (32768 + 256 * a + 16 * b + c)) := by decide +kernel
theorem bcD9 : ∀ a, a < 16 → ∀ b, b < 16 → ∀ c, c < 16 → bcW (nI (36864 + 256 * a + 16 * b + c)) = nI (popc 16 (36864 + 256 * a + 16 * b + c)) := by decide +kernel
theorem bcD10 : ∀ a, a < 16 → ∀ b, b < 16 → ∀ c, c < 16 → bcW (nI (40960 + 256 * a + 16 * b + c)) = nI (popc 16 (40960 + 256 * a + 16 * b + c)) := by decide +kernel
theorem bcD11 : ∀ a, a < 16 → ∀ b, b < 16 → ∀ c, c < 16 → bcW (nI (45056 + 256 * a + 16 * b + c)) = nI (popc 16 (45056 + 256 * a + 16 * b + c)) := by decide +kernel
theorem bcD12 : ∀ a, a < 16 → ∀ b, b < 16 → ∀ c, c < 16 → bcW (nI (49152 + 256 * a + 16 * b + c)) = nI (popc 16 (49152 + 256 * a + 16 * b + c)) := by decide +kernel
theorem bcD13 : ∀ a, a < 16 → ∀ b, b < 16 → ∀ c, c < 16 → bcW (nI (53248 + 256 * a + 16 * b + c)) = nI (popc 16 (53248 + 256 * a + 16 * b + c)) := by decide +kernel
theorem bcD14 : ∀ a, a < 16 → ∀ b, b < 16 → ∀ c, c < 16 → bcW (nI (57344 + 256 * a + 16 * b + c)) = nI (popc 16 (57344 + 256 * a + 16 * b + c)) := by decide +kernel
theorem bcD15 : ∀ a, a < 16 → ∀ b, b < 16 → ∀ c, c < 16 → bcW (nI (61440 + 256 * a + 16 * b + c)) = nI (popc 16 (61440 + 256 * a + 16 * b + c)) := by decide +kernel
theorem bc_pc {q : Nat} (h : q < 2 ^ 16) : bcW (nI q) = nI (popc 16 q) := by
  obtain ⟨k, a, b, c, hk, ha, hb, hc, rfl⟩ : ∃ k a b c, k < 16 ∧ a < 16 ∧ b < 16 ∧ c < 16 ∧ q = 4096 * k + 256 * a + 16 * b + c := ⟨q / 4096, q / 256 % 16, q / 16 % 16, q % 16, by omega, by omega, by omega, by omega, by omega⟩
  match k, hk with
  | 0, _ => exact bcD0 a ha b hb c hc
  | 1, _ => exact bcD1 a ha b hb c hc
  | 2, _ => exact bcD2 a ha b hb c hc
  | 3, _ => exact bcD3 a ha b hb c hc
  | 4, _ => exact bcD4 a ha b hb c hc
  | 5, _ => exact bcD5 a ha b hb c hc
  | 6, _ => exact bcD6 a ha b hb c hc
  | 7, _ => exact bcD7 a ha b hb c hc
  | 8, _ => exact bcD8 a ha b hb c hc
  | 9, _ => exact bcD9 a ha b hb c hc
  | 10, _ => exact bcD10 a ha b hb c hc
  | 11, _ => exact bcD11 a ha b hb c hc
  | 12, _ => exact bcD12 a ha b hb c hc
  | 13, _ => exact bcD13 a ha b hb c hc
  | 14, _ => exact bcD14 a ha b hb c hc
  | 15, _ => exact bcD15 a ha b hb c hc
  | k + 16, hk => exact absurd hk (by omega)
theorem wr_or (β : Bk) (ρ : Nat → Int32) (e : Int32) (n : Nat) (hn : n ≤ 4) : ∀ m, wrS β ρ e n m = -9 ∨ 0 ≤ wrS β ρ e n m := by
  intro m
  induction m with
  | zero => exact Or.inl rfl
  | succ m ih =>
    by_cases h : ρ (n - (m + 1)) = purA β (nI (n - (m + 1))) e + 500
    · rw [wrS, if_pos h]; exact ih
    · rw [wrS, if_neg h]; exact Or.inr (nI_pos' (by omega))
theorem wr_ge {β : Bk} {ρ : Nat → Int32} {e : Int32} {n : Nat} (hn : n ≤ 4) (h : ¬ wrA β ρ n e = -9) : 0 ≤ wrA β ρ n e := (wr_or β ρ e n hn n).resolve_left h
theorem wr_lt {β : Bk} {ρ : Nat → Int32} {e : Int32} {n : Nat} (h : wrA β ρ n e = -9) : ¬ 0 ≤ wrA β ρ n e := by rw [h]; decide
set_option maxHeartbeats 4000000 in
set_option maxRecDepth 100000 in
theorem k_J6_bitCount_0f7a4 (l : Launch) (G : GP) (ad : Nat → Nat) (σ : Nat → Nat → Int32) (x : Int32) : CT l G yJ6_bitCount_0f7a4 cJ6_bitCount_0f7a4 1 (some .int) 0 [.int x] (WE G ad σ) (some (.int (bcW x))) (WE G ad σ) := by
  refine x_meth "java/lang/Integer" rfl (by decide +kernel) (by rfl) (Nat.le_of_ble_eq_true rfl) ?_
  intro pP eE sS mM args below meth cC A ls hC hr hkL hK hZ hA hH hl
  have hx := hC.1
  have hb := hC.2.1
  have hl : lv_has ls 1 [(0, .int x)] := hl
  refine lv_iload_n hx hb dJ6_bitCount_0f7a4_0 rfl (lv_at hl 0 rfl) ?_
  refine lv_iload_n hx hb dJ6_bitCount_0f7a4_1 rfl (lv_at hl 0 rfl) ?_
  refine lv_iconst (v := 1) hx hb dJ6_bitCount_0f7a4_2 (by decide) ?_
  refine lv_iushr hx hb dJ6_bitCount_0f7a4_3 rfl ?_
  refine lv_ldcw (v := (1431655765 : Int32)) hx hb hC.2.2.2.1 (hC.2.2.2.2 _ wd_725) dJ6_bitCount_0f7a4_4 ?_
  refine lv_iand hx hb dJ6_bitCount_0f7a4_7 ?_
  refine lv_isub hx hb dJ6_bitCount_0f7a4_8 ?_
  refine lv_istore_n (lv' := [(0, .int (x - (((x.toUInt32 >>> ((1 : Int32).toUInt32 &&& Int32.toUInt32 31)).toInt32) &&& (1431655765 : Int32))))]) hx hb dJ6_bitCount_0f7a4_9 rfl hl (by decide) rfl (fun ls hl => ?_)
  refine lv_iload_n hx hb dJ6_bitCount_0f7a4_10 rfl (lv_at hl 0 rfl) ?_
  refine lv_ldcw (v := (858993459 : Int32)) hx hb hC.2.2.2.1 (hC.2.2.2.2 _ wd_726) dJ6_bitCount_0f7a4_11 ?_
  refine lv_iand hx hb dJ6_bitCount_0f7a4_14 ?_
  refine lv_iload_n hx hb dJ6_bitCount_0f7a4_15 rfl (lv_at hl 0 rfl) ?_
  refine lv_iconst (v := 2) hx hb dJ6_bitCount_0f7a4_16 (by decide) ?_
  refine lv_iushr hx hb dJ6_bitCount_0f7a4_17 rfl ?_
  refine lv_ldcw (v := (858993459 : Int32)) hx hb hC.2.2.2.1 (hC.2.2.2.2 _ wd_726) dJ6_bitCount_0f7a4_18 ?_
  refine lv_iand hx hb dJ6_bitCount_0f7a4_21 ?_
  refine lv_iadd hx hb dJ6_bitCount_0f7a4_22 ?_
  refine lv_istore_n (lv' := [(0, .int (((x - (((x.toUInt32 >>> ((1 : Int32).toUInt32 &&& Int32.toUInt32 31)).toInt32) &&& (1431655765 : Int32))) &&& (858993459 : Int32)) + ((((x - (((x.toUInt32 >>> ((1 : Int32).toUInt32 &&& Int32.toUInt32 31)).toInt32) &&& (1431655765 : Int32))).toUInt32 >>> ((2 : Int32).toUInt32 &&& Int32.toUInt32 31)).toInt32) &&& (858993459 : Int32))))]) hx hb dJ6_bitCount_0f7a4_23 rfl hl (by decide) rfl (fun ls hl => ?_)
  refine lv_iload_n hx hb dJ6_bitCount_0f7a4_24 rfl (lv_at hl 0 rfl) ?_
  refine lv_iload_n hx hb dJ6_bitCount_0f7a4_25 rfl (lv_at hl 0 rfl) ?_
  refine lv_iconst (v := 4) hx hb dJ6_bitCount_0f7a4_26 (by decide) ?_
  refine lv_iushr hx hb dJ6_bitCount_0f7a4_27 rfl ?_
  refine lv_iadd hx hb dJ6_bitCount_0f7a4_28 ?_
  refine lv_ldcw (v := (252645135 : Int32)) hx hb hC.2.2.2.1 (hC.2.2.2.2 _ wd_727) dJ6_bitCount_0f7a4_29 ?_
  refine lv_iand hx hb dJ6_bitCount_0f7a4_32 ?_
  refine lv_istore_n (lv' := [(0, .int (((((x - (((x.toUInt32 >>> ((1 : Int32).toUInt32 &&& Int32.toUInt32 31)).toInt32) &&& (1431655765 : Int32))) &&& (858993459 : Int32)) + ((((x - (((x.toUInt32 >>> ((1 : Int32).toUInt32 &&& Int32.toUInt32 31)).toInt32) &&& (1431655765 : Int32))).toUInt32 >>> ((2 : Int32).toUInt32 &&& Int32.toUInt32 31)).toInt32) &&& (858993459 : Int32))) + (((((x - (((x.toUInt32 >>> ((1 : Int32).toUInt32 &&& Int32.toUInt32 31)).toInt32) &&& (1431655765 : Int32))) &&& (858993459 : Int32)) + ((((x - (((x.toUInt32 >>> ((1 : Int32).toUInt32 &&& Int32.toUInt32 31)).toInt32) &&& (1431655765 : Int32))).toUInt32 >>> ((2 : Int32).toUInt32 &&& Int32.toUInt32 31)).toInt32) &&& (858993459 : Int32))).toUInt32 >>> ((4 : Int32).toUInt32 &&& Int32.toUInt32 31)).toInt32)) &&& (252645135 : Int32)))]) hx hb dJ6_bitCount_0f7a4_33 rfl hl (by decide) rfl (fun ls hl => ?_)
  refine lv_iload_n hx hb dJ6_bitCount_0f7a4_34 rfl (lv_at hl 0 rfl) ?_
  refine lv_iload_n hx hb dJ6_bitCount_0f7a4_35 rfl (lv_at hl 0 rfl) ?_
  refine lv_bipush (v := 8) hx hb dJ6_bitCount_0f7a4_36 (by decide) ?_
  refine lv_iushr hx hb dJ6_bitCount_0f7a4_38 rfl ?_
  refine lv_iadd hx hb dJ6_bitCount_0f7a4_39 ?_
  refine lv_istore_n (lv' := [(0, .int ((((((x - (((x.toUInt32 >>> ((1 : Int32).toUInt32 &&& Int32.toUInt32 31)).toInt32) &&& (1431655765 : Int32))) &&& (858993459 : Int32)) + ((((x - (((x.toUInt32 >>> ((1 : Int32).toUInt32 &&& Int32.toUInt32 31)).toInt32) &&& (1431655765 : Int32))).toUInt32 >>> ((2 : Int32).toUInt32 &&& Int32.toUInt32 31)).toInt32) &&& (858993459 : Int32))) + (((((x - (((x.toUInt32 >>> ((1 : Int32).toUInt32 &&& Int32.toUInt32 31)).toInt32) &&& (1431655765 : Int32))) &&& (858993459 : Int32)) + ((((x - (((x.toUInt32 >>> ((1 : Int32).toUInt32 &&& Int32.toUInt32 31)).toInt32) &&& (1431655765 : Int32))).toUInt32 >>> ((2 : Int32).toUInt32 &&& Int32.toUInt32 31)).toInt32) &&& (858993459 : Int32))).toUInt32 >>> ((4 : Int32).toUInt32 &&& Int32.toUInt32 31)).toInt32)) &&& (252645135 : Int32)) + (((((((x - (((x.toUInt32 >>> ((1 : Int32).toUInt32 &&& Int32.toUInt32 31)).toInt32) &&& (1431655765 : Int32))) &&& (858993459 : Int32)) + ((((x - (((x.toUInt32 >>> ((1 : Int32).toUInt32 &&& Int32.toUInt32 31)).toInt32) &&& (1431655765 : Int32))).toUInt32 >>> ((2 : Int32).toUInt32 &&& Int32.toUInt32 31)).toInt32) &&& (858993459 : Int32))) + (((((x - (((x.toUInt32 >>> ((1 : Int32).toUInt32 &&& Int32.toUInt32 31)).toInt32) &&& (1431655765 : Int32))) &&& (858993459 : Int32)) + ((((x - (((x.toUInt32 >>> ((1 : Int32).toUInt32 &&& Int32.toUInt32 31)).toInt32) &&& (1431655765 : Int32))).toUInt32 >>> ((2 : Int32).toUInt32 &&& Int32.toUInt32 31)).toInt32) &&& (858993459 : Int32))).toUInt32 >>> ((4 : Int32).toUInt32 &&& Int32.toUInt32 31)).toInt32)) &&& (252645135 : Int32)).toUInt32 >>> ((8 : Int32).toUInt32 &&& Int32.toUInt32 31)).toInt32)))]) hx hb dJ6_bitCount_0f7a4_40 rfl hl (by decide) rfl (fun ls hl => ?_)
  refine lv_iload_n hx hb dJ6_bitCount_0f7a4_41 rfl (lv_at hl 0 rfl) ?_
  refine lv_iload_n hx hb dJ6_bitCount_0f7a4_42 rfl (lv_at hl 0 rfl) ?_
  refine lv_bipush (v := 16) hx hb dJ6_bitCount_0f7a4_43 (by decide) ?_
  refine lv_iushr hx hb dJ6_bitCount_0f7a4_45 rfl ?_
  refine lv_iadd hx hb dJ6_bitCount_0f7a4_46 ?_
  refine lv_istore_n (lv' := [(0, .int (((((((x - (((x.toUInt32 >>> ((1 : Int32).toUInt32 &&& Int32.toUInt32 31)).toInt32) &&& (1431655765 : Int32))) &&& (858993459 : Int32)) + ((((x - (((x.toUInt32 >>> ((1 : Int32).toUInt32 &&& Int32.toUInt32 31)).toInt32) &&& (1431655765 : Int32))).toUInt32 >>> ((2 : Int32).toUInt32 &&& Int32.toUInt32 31)).toInt32) &&& (858993459 : Int32))) + (((((x - (((x.toUInt32 >>> ((1 : Int32).toUInt32 &&& Int32.toUInt32 31)).toInt32) &&& (1431655765 : Int32))) &&& (858993459 : Int32)) + ((((x - (((x.toUInt32 >>> ((1 : Int32).toUInt32 &&& Int32.toUInt32 31)).toInt32) &&& (1431655765 : Int32))).toUInt32 >>> ((2 : Int32).toUInt32 &&& Int32.toUInt32 31)).toInt32) &&& (858993459 : Int32))).toUInt32 >>> ((4 : Int32).toUInt32 &&& Int32.toUInt32 31)).toInt32)) &&& (252645135 : Int32)) + (((((((x - (((x.toUInt32 >>> ((1 : Int32).toUInt32 &&& Int32.toUInt32 31)).toInt32) &&& (1431655765 : Int32))) &&& (858993459 : Int32)) + ((((x - (((x.toUInt32 >>> ((1 : Int32).toUInt32 &&& Int32.toUInt32 31)).toInt32) &&& (1431655765 : Int32))).toUInt32 >>> ((2 : Int32).toUInt32 &&& Int32.toUInt32 31)).toInt32) &&& (858993459 : Int32))) + (((((x - (((x.toUInt32 >>> ((1 : Int32).toUInt32 &&& Int32.toUInt32 31)).toInt32) &&& (1431655765 : Int32))) &&& (858993459 : Int32)) + ((((x - (((x.toUInt32 >>> ((1 : Int32).toUInt32 &&& Int32.toUInt32 31)).toInt32) &&& (1431655765 : Int32))).toUInt32 >>> ((2 : Int32).toUInt32 &&& Int32.toUInt32 31)).toInt32) &&& (858993459 : Int32))).toUInt32 >>> ((4 : Int32).toUInt32 &&& Int32.toUInt32 31)).toInt32)) &&& (252645135 : Int32)).toUInt32 >>> ((8 : Int32).toUInt32 &&& Int32.toUInt32 31)).toInt32)) + ((((((((x - (((x.toUInt32 >>> ((1 : Int32).toUInt32 &&& Int32.toUInt32 31)).toInt32) &&& (1431655765 : Int32))) &&& (858993459 : Int32)) + ((((x - (((x.toUInt32 >>> ((1 : Int32).toUInt32 &&& Int32.toUInt32 31)).toInt32) &&& (1431655765 : Int32))).toUInt32 >>> ((2 : Int32).toUInt32 &&& Int32.toUInt32 31)).toInt32) &&& (858993459 : Int32))) + (((((x - (((x.toUInt32 >>> ((1 : Int32).toUInt32 &&& Int32.toUInt32 31)).toInt32) &&& (1431655765 : Int32))) &&& (858993459 : Int32)) + ((((x - (((x.toUInt32 >>> ((1 : Int32).toUInt32 &&& Int32.toUInt32 31)).toInt32) &&& (1431655765 : Int32))).toUInt32 >>> ((2 : Int32).toUInt32 &&& Int32.toUInt32 31)).toInt32) &&& (858993459 : Int32))).toUInt32 >>> ((4 : Int32).toUInt32 &&& Int32.toUInt32 31)).toInt32)) &&& (252645135 : Int32)) + (((((((x - (((x.toUInt32 >>> ((1 : Int32).toUInt32 &&& Int32.toUInt32 31)).toInt32) &&& (1431655765 : Int32))) &&& (858993459 : Int32)) + ((((x - (((x.toUInt32 >>> ((1 : Int32).toUInt32 &&& Int32.toUInt32 31)).toInt32) &&& (1431655765 : Int32))).toUInt32 >>> ((2 : Int32).toUInt32 &&& Int32.toUInt32 31)).toInt32) &&& (858993459 : Int32))) + (((((x - (((x.toUInt32 >>> ((1 : Int32).toUInt32 &&& Int32.toUInt32 31)).toInt32) &&& (1431655765 : Int32))) &&& (858993459 : Int32)) + ((((x - (((x.toUInt32 >>> ((1 : Int32).toUInt32 &&& Int32.toUInt32 31)).toInt32) &&& (1431655765 : Int32))).toUInt32 >>> ((2 : Int32).toUInt32 &&& Int32.toUInt32 31)).toInt32) &&& (858993459 : Int32))).toUInt32 >>> ((4 : Int32).toUInt32 &&& Int32.toUInt32 31)).toInt32)) &&& (252645135 : Int32)).toUInt32 >>> ((8 : Int32).toUInt32 &&& Int32.toUInt32 31)).toInt32)).toUInt32 >>> ((16 : Int32).toUInt32 &&& Int32.toUInt32 31)).toInt32)))]) hx hb dJ6_bitCount_0f7a4_47 rfl hl (by decide) rfl (fun ls hl => ?_)
  refine lv_iload_n hx hb dJ6_bitCount_0f7a4_48 rfl (lv_at hl 0 rfl) ?_
  refine lv_bipush (v := 63) hx hb dJ6_bitCount_0f7a4_49 (by decide) ?_
  refine lv_iand hx hb dJ6_bitCount_0f7a4_51 ?_
  exact x_iret hC hr hkL hH (by rfl) rfl dJ6_bitCount_0f7a4_52
set_option maxHeartbeats 4000000 in
set_option maxRecDepth 100000 in
theorem k_X11_fitting (l : Launch) (G : GP) (ad : Nat → Nat) (σ : Nat → Nat → Int32) (w : Int32) (h : Nat) (k : Nat) (n : Nat) (hb3 : (σ 7 3) = nI h) (hb4 : (σ 7 4) = nI k) (hh4 : h ≤ 4) (hk6 : k ≤ 6) (hwo : WO (bk h k (σ 8) (σ 9) (σ 10)) (σ 23) (σ 24)) (hbh : BH (bk h k (σ 8) (σ 9) (σ 10))) (hn : (σ 3 1) = nI n) (hn4 : n ≤ 4) : CT l G yX11_fitting cX11_fitting 5 (some .int) 5 [.ref (ad 0), .int w] (WC G ad σ) (some (.int (rfA (fitC w) (fitA (bk h k (σ 8) (σ 9) (σ 10)) (σ 4) n w)))) (WC G ad (ua σ 31 (rfz (σ 31) (fitC w)))) := by
  refine x_meth "BetsOnBets" rfl (by decide +kernel) (by rfl) (Nat.le_of_ble_eq_true rfl) ?_
  intro pP eE sS mM args below meth cC A ls hC hr hkL hK hZ hA hH hl
  have hx := hC.1
  have hb := hC.2.1
  have hl : lv_has ls 5 [(0, .ref (ad 0)), (1, .int w)] := hl
  have pwh := pw4 hh4
  have pwk := pw6 hk6
  have ph1 := Nat.one_le_two_pow (n := h)
  refine lv_iload_n hx hb dX11_fitting_0 rfl (lv_at hl 1 rfl) ?_
  refine lv_if_eq (tgt := 16) hx hb dX11_fitting_1 (by decide) (fun c1 => ?_) (fun c1 => ?_)
  · refine lv_aload_n hx hb dX11_fitting_16 rfl (lv_at hl 0 rfl) ?_
    refine gf_X11_28 (v := .ref (ad 7)) hC hK hH 0 rfl rfl dX11_fitting_17 ?_
    refine x_callV (ws' := WC G ad σ) (As := []) (rest := []) (st' := [.int (nI (2 ^ h))]) hC hK hZ hA hl.1 hH (k_X2_ends l G (pk ad [7, 8, 9, 10]) (pk σ [7, 8, 9, 10]) h k hb3 hb4 hh4 hk6) lk_X11_139 [7, 8, 9, 10] rfl rfl rfl 7 1 rfl rfl rfl ⟨Nat.le_of_ble_eq_true rfl, Nat.le_of_ble_eq_true rfl⟩ ⟨Nat.le_refl _, Nat.le_refl _⟩ (Nat.le_of_ble_eq_true rfl) rfl dX11_fitting_20 (fun H locs hH => ?_)
    refine lv_istore_n (lv' := [(2, .int (nI (2 ^ h))), (0, .ref (ad 0)), (1, .int w)]) hx hb dX11_fitting_23 rfl hl (by decide) rfl (fun ls hl => ?_)
    refine lv_iconst (v := 0) hx hb dX11_fitting_24 (by decide) ?_
    refine lv_istore_n (lv' := [(3, .int 0), (2, .int (nI (2 ^ h))), (0, .ref (ad 0)), (1, .int w)]) hx hb dX11_fitting_25 rfl hl (by decide) rfl (fun ls hl => ?_)
    refine lv_iconst (v := 0) hx hb dX11_fitting_26 (by decide) ?_
    refine lv_istore (lv' := [(4, .int 0), (3, .int 0), (2, .int (nI (2 ^ h))), (0, .ref (ad 0)), (1, .int w)]) hx hb dX11_fitting_27 hl (by decide) rfl (fun ls hl => ?_)
    refine x_loop (G := G) (A := A) (H0 := sS.heap) (nL := 5) (α := Nat) (fun q_ => (2 ^ h) - q_) (fun q_ => q_ ≤ (2 ^ h)) (fun q_ => WC G ad σ) (fun q_ => [(0, .ref (ad 0)), (1, .int w), (2, .int (nI (2 ^ h))), (3, .int (nI (fiN (bk h k (σ 8) (σ 9) (σ 10)) (σ 4) n q_))), (4, .int (nI q_))]) ?_ 0 (show 0 ≤ (2 ^ h) from (Nat.zero_le _)) ?_ ?_
    · rintro e hi_e ih_e H locs ls hH hl
      replace hi_e : e ≤ (2 ^ h) := hi_e
      replace hH : Hx G A (WC G ad σ) sS.heap H locs := hH
      replace hl : lv_has ls 5 [(0, .ref (ad 0)), (1, .int w), (2, .int (nI (2 ^ h))), (3, .int (nI (fiN (bk h k (σ 8) (σ 9) (σ 10)) (σ 4) n e))), (4, .int (nI e))] := hl
      refine lv_iload hx hb dX11_fitting_29 (lv_at hl 4 rfl) ?_
      refine lv_iload_n hx hb dX11_fitting_31 rfl (lv_at hl 2 rfl) ?_
      refine lv_icmp_ge (tgt := 59) hx hb dX11_fitting_32 (by decide) (fun c32 => ?_) (fun c32 => ?_)
      · have ge_e := lp_out (n := 2 ^ h) rfl (by omega) (by omega) c32
        have eq_e : e = 2 ^ h := by omega
        refine lv_iload_n hx hb dX11_fitting_59 rfl (lv_at hl 1 rfl) ?_
        refine lv_if_ne (tgt := 67) hx hb dX11_fitting_60 (by decide) (fun c60 => ?_) (fun c60 => ?_)
        · refine lv_iload_n hx hb dX11_fitting_67 rfl (lv_at hl 3 rfl) ?_
          refine x_callJ (ws' := WC G ad σ) (As := [.int (nI (fiN (bk h k (σ 8) (σ 9) (σ 10)) (σ 4) n e))]) (rest := []) (st' := [.int (bcW (nI (fiN (bk h k (σ 8) (σ 9) (σ 10)) (σ 4) n e)))]) hC hK hZ hA hl.1 hH (k_J6_bitCount_0f7a4 l G (pk ad []) (pk σ []) (nI (fiN (bk h k (σ 8) (σ 9) (σ 10)) (σ 4) n e))) lk_X11_184 [] rfl rfl rfl rfl ⟨Nat.le_of_ble_eq_true rfl, Nat.le_of_ble_eq_true rfl⟩ ⟨Nat.le_refl _, Nat.le_refl _⟩ (Nat.le_of_ble_eq_true rfl) rfl dX11_fitting_68 (fun H locs hH => ?_)
          refine x_topE (y := (nI (popc 16 (fiN (bk h k (σ 8) (σ 9) (σ 10)) (σ 4) n (2 ^ h))))) (by rw [eq_e]; exact bc_pc (by have h1 := fiN_lt (bk h k (σ 8) (σ 9) (σ 10)) (σ 4) n (2 ^ h); have h2 := Nat.pow_le_pow_right (n := 2) (by omega) pwh; omega)) ?_
          exact x_iret hC hr hkL hH (by (first | refine (rfA0 (cI_t (inb2.mpr (Or.inl c1)))).trans ?_ | refine (rfA0 (cI_t (inb2.mpr (Or.inr c6)))).trans ?_); first | exact (if_pos c60).trans (by rw [eq_e]; rfl) | exact if_neg c60) ((congrArg (fun z_ : Nat → Int32 => WC G ad (ua σ 31 z_)) (by first | exact rfz0 (cI_t (inb2.mpr (Or.inl c1))) | exact rfz0 (cI_t (inb2.mpr (Or.inr c6))) : (rfz (σ 31) (fitC w)) = (σ 31))).trans (show WC G ad (ua σ 31 (σ 31)) = WC G ad σ from rfl)) dX11_fitting_71
        · refine lv_iload_n hx hb dX11_fitting_63 rfl (lv_at hl 3 rfl) ?_
          refine lv_goto (tgt := 71) hx hb dX11_fitting_64 (by decide) ?_
          exact x_iret hC hr hkL hH (by (first | refine (rfA0 (cI_t (inb2.mpr (Or.inl c1)))).trans ?_ | refine (rfA0 (cI_t (inb2.mpr (Or.inr c6)))).trans ?_); first | exact (if_pos c60).trans (by rw [eq_e]; rfl) | exact if_neg c60) ((congrArg (fun z_ : Nat → Int32 => WC G ad (ua σ 31 z_)) (by first | exact rfz0 (cI_t (inb2.mpr (Or.inl c1))) | exact rfz0 (cI_t (inb2.mpr (Or.inr c6))) : (rfz (σ 31) (fitC w)) = (σ 31))).trans (show WC G ad (ua σ 31 (σ 31)) = WC G ad σ from rfl)) dX11_fitting_71
      · have lt_e := lp_in (n := 2 ^ h) rfl (by omega) (by omega) c32
        refine lv_aload_n hx hb dX11_fitting_35 rfl (lv_at hl 0 rfl) ?_
        refine lv_iload hx hb dX11_fitting_36 (lv_at hl 4 rfl) ?_
        refine x_callVA (ws' := WC G ad σ) (As := [.int (nI e)]) (rest := []) (st' := [.int (wrA (bk h k (σ 8) (σ 9) (σ 10)) (σ 4) n (nI e))]) hC hK hZ hA hl.1 hH (k_X11_firstUnlike l G ad σ (nI e) h k e n hb3 hb4 hh4 hk6 hwo hbh rfl lt_e hn hn4) lk_X11_181 rfl 0 10 rfl rfl rfl ⟨Nat.le_of_ble_eq_true rfl, Nat.le_of_ble_eq_true rfl⟩ ⟨Nat.le_refl _, Nat.le_refl _⟩ (Nat.le_of_ble_eq_true rfl) rfl dX11_fitting_38 (fun H locs hH => ?_)
        refine lv_bipush (v := (-9)) hx hb dX11_fitting_41 (by decide) ?_
        refine lv_icmp_ne (tgt := 53) hx hb dX11_fitting_43 (by decide) (fun c43 => ?_) (fun c43 => ?_)
        · refine lv_iinc (v := ((nI e) + 1)) (lv' := [(4, .int ((nI e) + 1)), (0, .ref (ad 0)), (1, .int w), (2, .int (nI (2 ^ h))), (3, .int (nI (fiN (bk h k (σ 8) (σ 9) (σ 10)) (σ 4) n e)))]) hx hb dX11_fitting_53 hl (k := 4) rfl rfl (by decide) rfl (fun ls hl => ?_)
          refine lv_goto (tgt := 29) hx hb dX11_fitting_56 (by decide) ?_
          exact ih_e (e + 1) (show (e + 1) ≤ (2 ^ h) from (by omega)) (show (2 ^ h) - (e + 1) < (2 ^ h) - e from (by omega)) _ _ _ (hH.eq rfl) (lv_eq (lv_sub hl [1, 2, 3, 4, 0] rfl) (lc_s (lc_s (lc_s (lc_i (by first | (rw [fiN, if_pos (wr_ge hn4 c43)]; done) | (rw [fiN, if_neg (wr_lt c43)]; exact or_top (fiN_lt _ _ _ _) (by omega)) : (nI (fiN (bk h k (σ 8) (σ 9) (σ 10)) (σ 4) n e)) = (nI (fiN (bk h k (σ 8) (σ 9) (σ 10)) (σ 4) n (e + 1)))) (lc_i (by exact nI_1 _ : ((nI e) + 1) = (nI (e + 1))) rfl))))))
        · refine lv_iload_n hx hb dX11_fitting_46 rfl (lv_at hl 3 rfl) ?_
          refine lv_iconst (v := 1) hx hb dX11_fitting_47 (by decide) ?_
          refine lv_iload hx hb dX11_fitting_48 (lv_at hl 4 rfl) ?_
          refine lv_ishl hx hb dX11_fitting_50 ?_
          refine lv_ior hx hb dX11_fitting_51 ?_
          refine lv_istore_n (lv' := [(3, .int ((nI (fiN (bk h k (σ 8) (σ 9) (σ 10)) (σ 4) n e)) ||| ((1 : Int32) <<< ((nI e) &&& 31)))), (0, .ref (ad 0)), (1, .int w), (2, .int (nI (2 ^ h))), (4, .int (nI e))]) hx hb dX11_fitting_52 rfl hl (by decide) rfl (fun ls hl => ?_)
          refine lv_iinc (v := ((nI e) + 1)) (lv' := [(4, .int ((nI e) + 1)), (3, .int ((nI (fiN (bk h k (σ 8) (σ 9) (σ 10)) (σ 4) n e)) ||| ((1 : Int32) <<< ((nI e) &&& 31)))), (0, .ref (ad 0)), (1, .int w), (2, .int (nI (2 ^ h)))]) hx hb dX11_fitting_53 hl (k := 4) rfl rfl (by decide) rfl (fun ls hl => ?_)
          refine lv_goto (tgt := 29) hx hb dX11_fitting_56 (by decide) ?_
          exact ih_e (e + 1) (show (e + 1) ≤ (2 ^ h) from (by omega)) (show (2 ^ h) - (e + 1) < (2 ^ h) - e from (by omega)) _ _ _ (hH.eq rfl) (lv_eq (lv_sub hl [2, 3, 4, 1, 0] rfl) (lc_s (lc_s (lc_s (lc_i (by first | (rw [fiN, if_pos (wr_ge hn4 c43)]; done) | (rw [fiN, if_neg (wr_lt c43)]; exact or_top (fiN_lt _ _ _ _) (by omega)) : ((nI (fiN (bk h k (σ 8) (σ 9) (σ 10)) (σ 4) n e)) ||| ((1 : Int32) <<< ((nI e) &&& 31))) = (nI (fiN (bk h k (σ 8) (σ 9) (σ 10)) (σ 4) n (e + 1)))) (lc_i (by exact nI_1 _ : ((nI e) + 1) = (nI (e + 1))) rfl))))))
    · exact hH.eq rfl
    · exact lv_eq (lv_sub hl [3, 4, 2, 1, 0] rfl) (lc_s (lc_s (lc_s (lc_i (by rfl : 0 = (nI (fiN (bk h k (σ 8) (σ 9) (σ 10)) (σ 4) n 0))) (lc_i (by rfl : 0 = (nI 0)) rfl)))))
  · refine lv_iload_n hx hb dX11_fitting_4 rfl (lv_at hl 1 rfl) ?_
    refine lv_iconst (v := 1) hx hb dX11_fitting_5 (by decide) ?_
    refine lv_icmp_eq (tgt := 16) hx hb dX11_fitting_6 (by decide) (fun c6 => ?_) (fun c6 => ?_)
    · refine lv_aload_n hx hb dX11_fitting_16 rfl (lv_at hl 0 rfl) ?_
      refine gf_X11_28 (v := .ref (ad 7)) hC hK hH 0 rfl rfl dX11_fitting_17 ?_
      refine x_callV (ws' := WC G ad σ) (As := []) (rest := []) (st' := [.int (nI (2 ^ h))]) hC hK hZ hA hl.1 hH (k_X2_ends l G (pk ad [7, 8, 9, 10]) (pk σ [7, 8, 9, 10]) h k hb3 hb4 hh4 hk6) lk_X11_139 [7, 8, 9, 10] rfl rfl rfl 7 1 rfl rfl rfl ⟨Nat.le_of_ble_eq_true rfl, Nat.le_of_ble_eq_true rfl⟩ ⟨Nat.le_refl _, Nat.le_refl _⟩ (Nat.le_of_ble_eq_true rfl) rfl dX11_fitting_20 (fun H locs hH => ?_)
      refine lv_istore_n (lv' := [(2, .int (nI (2 ^ h))), (0, .ref (ad 0)), (1, .int w)]) hx hb dX11_fitting_23 rfl hl (by decide) rfl (fun ls hl => ?_)
      refine lv_iconst (v := 0) hx hb dX11_fitting_24 (by decide) ?_
      refine lv_istore_n (lv' := [(3, .int 0), (2, .int (nI (2 ^ h))), (0, .ref (ad 0)), (1, .int w)]) hx hb dX11_fitting_25 rfl hl (by decide) rfl (fun ls hl => ?_)
      refine lv_iconst (v := 0) hx hb dX11_fitting_26 (by decide) ?_
      refine lv_istore (lv' := [(4, .int 0), (3, .int 0), (2, .int (nI (2 ^ h))), (0, .ref (ad 0)), (1, .int w)]) hx hb dX11_fitting_27 hl (by decide) rfl (fun ls hl => ?_)
      refine x_loop (G := G) (A := A) (H0 := sS.heap) (nL := 5) (α := Nat) (fun q_ => (2 ^ h) - q_) (fun q_ => q_ ≤ (2 ^ h)) (fun q_ => WC G ad σ) (fun q_ => [(0, .ref (ad 0)), (1, .int w), (2, .int (nI (2 ^ h))), (3, .int (nI (fiN (bk h k (σ 8) (σ 9) (σ 10)) (σ 4) n q_))), (4, .int (nI q_))]) ?_ 0 (show 0 ≤ (2 ^ h) from (Nat.zero_le _)) ?_ ?_
      · rintro e hi_e ih_e H locs ls hH hl
        replace hi_e : e ≤ (2 ^ h) := hi_e
        replace hH : Hx G A (WC G ad σ) sS.heap H locs := hH
        replace hl : lv_has ls 5 [(0, .ref (ad 0)), (1, .int w), (2, .int (nI (2 ^ h))), (3, .int (nI (fiN (bk h k (σ 8) (σ 9) (σ 10)) (σ 4) n e))), (4, .int (nI e))] := hl
        refine lv_iload hx hb dX11_fitting_29 (lv_at hl 4 rfl) ?_
        refine lv_iload_n hx hb dX11_fitting_31 rfl (lv_at hl 2 rfl) ?_
        refine lv_icmp_ge (tgt := 59) hx hb dX11_fitting_32 (by decide) (fun c32 => ?_) (fun c32 => ?_)
        · have ge_e := lp_out (n := 2 ^ h) rfl (by omega) (by omega) c32
          have eq_e : e = 2 ^ h := by omega
          refine lv_iload_n hx hb dX11_fitting_59 rfl (lv_at hl 1 rfl) ?_
          refine lv_if_ne (tgt := 67) hx hb dX11_fitting_60 (by decide) (fun c60 => ?_) (fun c60 => ?_)
          · refine lv_iload_n hx hb dX11_fitting_67 rfl (lv_at hl 3 rfl) ?_
            refine x_callJ (ws' := WC G ad σ) (As := [.int (nI (fiN (bk h k (σ 8) (σ 9) (σ 10)) (σ 4) n e))]) (rest := []) (st' := [.int (bcW (nI (fiN (bk h k (σ 8) (σ 9) (σ 10)) (σ 4) n e)))]) hC hK hZ hA hl.1 hH (k_J6_bitCount_0f7a4 l G (pk ad []) (pk σ []) (nI (fiN (bk h k (σ 8) (σ 9) (σ 10)) (σ 4) n e))) lk_X11_184 [] rfl rfl rfl rfl ⟨Nat.le_of_ble_eq_true rfl, Nat.le_of_ble_eq_true rfl⟩ ⟨Nat.le_refl _, Nat.le_refl _⟩ (Nat.le_of_ble_eq_true rfl) rfl dX11_fitting_68 (fun H locs hH => ?_)
            refine x_topE (y := (nI (popc 16 (fiN (bk h k (σ 8) (σ 9) (σ 10)) (σ 4) n (2 ^ h))))) (by rw [eq_e]; exact bc_pc (by have h1 := fiN_lt (bk h k (σ 8) (σ 9) (σ 10)) (σ 4) n (2 ^ h); have h2 := Nat.pow_le_pow_right (n := 2) (by omega) pwh; omega)) ?_
            exact x_iret hC hr hkL hH (by (first | refine (rfA0 (cI_t (inb2.mpr (Or.inl c1)))).trans ?_ | refine (rfA0 (cI_t (inb2.mpr (Or.inr c6)))).trans ?_); first | exact (if_pos c60).trans (by rw [eq_e]; rfl) | exact if_neg c60) ((congrArg (fun z_ : Nat → Int32 => WC G ad (ua σ 31 z_)) (by first | exact rfz0 (cI_t (inb2.mpr (Or.inl c1))) | exact rfz0 (cI_t (inb2.mpr (Or.inr c6))) : (rfz (σ 31) (fitC w)) = (σ 31))).trans (show WC G ad (ua σ 31 (σ 31)) = WC G ad σ from rfl)) dX11_fitting_71
          · refine lv_iload_n hx hb dX11_fitting_63 rfl (lv_at hl 3 rfl) ?_
            refine lv_goto (tgt := 71) hx hb dX11_fitting_64 (by decide) ?_
            exact x_iret hC hr hkL hH (by (first | refine (rfA0 (cI_t (inb2.mpr (Or.inl c1)))).trans ?_ | refine (rfA0 (cI_t (inb2.mpr (Or.inr c6)))).trans ?_); first | exact (if_pos c60).trans (by rw [eq_e]; rfl) | exact if_neg c60) ((congrArg (fun z_ : Nat → Int32 => WC G ad (ua σ 31 z_)) (by first | exact rfz0 (cI_t (inb2.mpr (Or.inl c1))) | exact rfz0 (cI_t (inb2.mpr (Or.inr c6))) : (rfz (σ 31) (fitC w)) = (σ 31))).trans (show WC G ad (ua σ 31 (σ 31)) = WC G ad σ from rfl)) dX11_fitting_71
        · have lt_e := lp_in (n := 2 ^ h) rfl (by omega) (by omega) c32
          refine lv_aload_n hx hb dX11_fitting_35 rfl (lv_at hl 0 rfl) ?_
          refine lv_iload hx hb dX11_fitting_36 (lv_at hl 4 rfl) ?_
          refine x_callVA (ws' := WC G ad σ) (As := [.int (nI e)]) (rest := []) (st' := [.int (wrA (bk h k (σ 8) (σ 9) (σ 10)) (σ 4) n (nI e))]) hC hK hZ hA hl.1 hH (k_X11_firstUnlike l G ad σ (nI e) h k e n hb3 hb4 hh4 hk6 hwo hbh rfl lt_e hn hn4) lk_X11_181 rfl 0 10 rfl rfl rfl ⟨Nat.le_of_ble_eq_true rfl, Nat.le_of_ble_eq_true rfl⟩ ⟨Nat.le_refl _, Nat.le_refl _⟩ (Nat.le_of_ble_eq_true rfl) rfl dX11_fitting_38 (fun H locs hH => ?_)
          refine lv_bipush (v := (-9)) hx hb dX11_fitting_41 (by decide) ?_
          refine lv_icmp_ne (tgt := 53) hx hb dX11_fitting_43 (by decide) (fun c43 => ?_) (fun c43 => ?_)
          · refine lv_iinc (v := ((nI e) + 1)) (lv' := [(4, .int ((nI e) + 1)), (0, .ref (ad 0)), (1, .int w), (2, .int (nI (2 ^ h))), (3, .int (nI (fiN (bk h k (σ 8) (σ 9) (σ 10)) (σ 4) n e)))]) hx hb dX11_fitting_53 hl (k := 4) rfl rfl (by decide) rfl (fun ls hl => ?_)
            refine lv_goto (tgt := 29) hx hb dX11_fitting_56 (by decide) ?_
            exact ih_e (e + 1) (show (e + 1) ≤ (2 ^ h) from (by omega)) (show (2 ^ h) - (e + 1) < (2 ^ h) - e from (by omega)) _ _ _ (hH.eq rfl) (lv_eq (lv_sub hl [1, 2, 3, 4, 0] rfl) (lc_s (lc_s (lc_s (lc_i (by first | (rw [fiN, if_pos (wr_ge hn4 c43)]; done) | (rw [fiN, if_neg (wr_lt c43)]; exact or_top (fiN_lt _ _ _ _) (by omega)) : (nI (fiN (bk h k (σ 8) (σ 9) (σ 10)) (σ 4) n e)) = (nI (fiN (bk h k (σ 8) (σ 9) (σ 10)) (σ 4) n (e + 1)))) (lc_i (by exact nI_1 _ : ((nI e) + 1) = (nI (e + 1))) rfl))))))
          · refine lv_iload_n hx hb dX11_fitting_46 rfl (lv_at hl 3 rfl) ?_
            refine lv_iconst (v := 1) hx hb dX11_fitting_47 (by decide) ?_
            refine lv_iload hx hb dX11_fitting_48 (lv_at hl 4 rfl) ?_
            refine lv_ishl hx hb dX11_fitting_50 ?_
            refine lv_ior hx hb dX11_fitting_51 ?_
            refine lv_istore_n (lv' := [(3, .int ((nI (fiN (bk h k (σ 8) (σ 9) (σ 10)) (σ 4) n e)) ||| ((1 : Int32) <<< ((nI e) &&& 31)))), (0, .ref (ad 0)), (1, .int w), (2, .int (nI (2 ^ h))), (4, .int (nI e))]) hx hb dX11_fitting_52 rfl hl (by decide) rfl (fun ls hl => ?_)
            refine lv_iinc (v := ((nI e) + 1)) (lv' := [(4, .int ((nI e) + 1)), (3, .int ((nI (fiN (bk h k (σ 8) (σ 9) (σ 10)) (σ 4) n e)) ||| ((1 : Int32) <<< ((nI e) &&& 31)))), (0, .ref (ad 0)), (1, .int w), (2, .int (nI (2 ^ h)))]) hx hb dX11_fitting_53 hl (k := 4) rfl rfl (by decide) rfl (fun ls hl => ?_)
            refine lv_goto (tgt := 29) hx hb dX11_fitting_56 (by decide) ?_
            exact ih_e (e + 1) (show (e + 1) ≤ (2 ^ h) from (by omega)) (show (2 ^ h) - (e + 1) < (2 ^ h) - e from (by omega)) _ _ _ (hH.eq rfl) (lv_eq (lv_sub hl [2, 3, 4, 1, 0] rfl) (lc_s (lc_s (lc_s (lc_i (by first | (rw [fiN, if_pos (wr_ge hn4 c43)]; done) | (rw [fiN, if_neg (wr_lt c43)]; exact or_top (fiN_lt _ _ _ _) (by omega)) : ((nI (fiN (bk h k (σ 8) (σ 9) (σ 10)) (σ 4) n e)) ||| ((1 : Int32) <<< ((nI e) &&& 31))) = (nI (fiN (bk h k (σ 8) (σ 9) (σ 10)) (σ 4) n (e + 1)))) (lc_i (by exact nI_1 _ : ((nI e) + 1) = (nI (e + 1))) rfl))))))
      · exact hH.eq rfl
      · exact lv_eq (lv_sub hl [3, 4, 2, 1, 0] rfl) (lc_s (lc_s (lc_s (lc_i (by rfl : 0 = (nI (fiN (bk h k (σ 8) (σ 9) (σ 10)) (σ 4) n 0))) (lc_i (by rfl : 0 = (nI 0)) rfl)))))
    · refine lv_aload_n hx hb dX11_fitting_9 rfl (lv_at hl 0 rfl) ?_
      refine lv_bipush (v := (-2)) hx hb dX11_fitting_10 (by decide) ?_
      refine x_callVA (ws' := WC G ad (ua σ 31 (upd (σ 31) 2 ((σ 31) 2 + 1)))) (As := [.int (-2)]) (rest := []) (st' := [.int (-2)]) hC hK hZ hA hl.1 hH (k_X11_refused l G ad σ (-2) 2 rfl (by decide)) lk_X11_80 rfl 0 10 rfl rfl rfl ⟨Nat.le_of_ble_eq_true rfl, Nat.le_of_ble_eq_true rfl⟩ ⟨Nat.le_refl _, Nat.le_refl _⟩ (Nat.le_of_ble_eq_true rfl) rfl dX11_fitting_12 (fun H locs hH => ?_)
      exact x_iret hC hr hkL hH (by exact rfAk (cI_f (inb2_n c1 c6)) (by decide)) (congrArg (fun z_ : Nat → Int32 => WC G ad (ua σ 31 z_)) (by exact rfzk (cI_f (inb2_n c1 c6)) (by decide) : (rfz (σ 31) (fitC w)) = (upd (σ 31) 2 ((σ 31) 2 + 1)))) dX11_fitting_15
