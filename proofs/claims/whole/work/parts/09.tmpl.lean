/-! the worlds -/
def WE (G : GP) (ad : Nat → Nat) (σ : Nat → Nat → Int32) : va_W := []
def WA (G : GP) (n : Nat) (ad : Nat → Nat) (σ : Nat → Nat → Int32) : va_W := [(ad 0, .inl (G.2.1.1, n, .inl (σ 0)))]
def WC2 (G : GP) (ad : Nat → Nat) (σ : Nat → Nat → Int32) : va_W := [(ad 0, .inl (G.2.1.1, 52, .inl (σ 0))), (ad 1, .inl (G.2.1.1, 52, .inl (σ 1)))]
def WD2 (G : GP) (n : Nat) (ad : Nat → Nat) (σ : Nat → Nat → Int32) : va_W := [(ad 0, .inl (G.2.1.1, n, .inl (σ 0))), (ad 1, .inl (G.2.1.1, n, .inl (σ 1)))]
def WM (G : GP) (ad : Nat → Nat) (σ : Nat → Nat → Int32) : va_W := [(ad 0, .inr (11, [.ref (ad 1), .ref (ad 2), .ref (ad 3), .ref (ad 4), .int (σ 0 4), .ref (ad 5), .ref (ad 6), .int (σ 0 7), .int (σ 0 8), .int (σ 0 9), .int (σ 0 10), .int (σ 0 11), .int (σ 0 12), .ref (ad 7), .int (σ 0 14)])), (ad 1, .inl (G.2.1.1, 7, .inl (σ 1))), (ad 2, .inl (G.2.1.1, 52, .inl (σ 2))), (ad 3, .inl (G.2.1.1, 52, .inl (σ 3))), (ad 4, .inl (G.2.1.1, 52, .inl (σ 4))), (ad 5, .inl (G.2.1.1, 80, .inl (σ 5))), (ad 6, .inl (G.2.1.1, 7, .inl (σ 6))), (ad 7, .inl (G.2.1.1, 4, .inl (σ 7)))]
def WRW (G : GP) (n : Nat) (ad : Nat → Nat) (σ : Nat → Nat → Int32) : va_W := [(ad 0, .inr (8, [.ref (ad 1), .int (σ 0 1)])), (ad 1, .inl (G.2.1.1, n, .inl (σ 1)))]
def WRD (G : GP) (ad : Nat → Nat) (σ : Nat → Nat → Int32) : va_W := [(ad 0, .inr (7, [.ref (ad 2), .ref (ad 1), .int (σ 0 2), .int (σ 0 3)])), (ad 1, .inl (G.2.1.1, 7, .inl (σ 1))), (ad 2, .inr (8, [.ref (ad 3), .int (σ 2 1)])), (ad 3, .inl (G.2.1.1, 80, .inl (σ 3)))]
def WBK (G : GP) (ad : Nat → Nat) (σ : Nat → Nat → Int32) : va_W := [(ad 0, .inr (1, [.ref (ad 1), .ref (ad 2), .ref (ad 3), .int (σ 0 3), .int (σ 0 4)])), (ad 1, .inl (G.2.1.1, 4, .inl (σ 1))), (ad 2, .inl (G.2.1.1, 42, .inl (σ 2))), (ad 3, .inl (G.2.1.1, 4, .inl (σ 3)))]
def WBB (G : GP) (ad : Nat → Nat) (σ : Nat → Nat → Int32) : va_W := [(ad 0, .inr (1, [.ref (ad 1), .ref (ad 2), .ref (ad 3), .int (σ 0 3), .int (σ 0 4)])), (ad 1, .inl (G.2.1.1, 4, .inl (σ 1))), (ad 2, .inl (G.2.1.1, 42, .inl (σ 2))), (ad 3, .inl (G.2.1.1, 4, .inl (σ 3))), (ad 4, .inr (1, [.ref (ad 5), .ref (ad 6), .ref (ad 7), .int (σ 4 3), .int (σ 4 4)])), (ad 5, .inl (G.2.1.1, 4, .inl (σ 5))), (ad 6, .inl (G.2.1.1, 42, .inl (σ 6))), (ad 7, .inl (G.2.1.1, 4, .inl (σ 7)))]
def WWY (G : GP) (ad : Nat → Nat) (σ : Nat → Nat → Int32) : va_W := [(ad 0, .inr (9, [.ref (ad 1), .ref (ad 2), .ref (ad 3), .ref (ad 4), .ref (ad 5)])), (ad 1, .inl (G.2.1.2, 6, .inr (.inr (.inr (.inr (fun j => ([some (ad 6), some (ad 7), some (ad 8), some (ad 9), some (ad 10), some (ad 11)] : List (Option Nat)).getD j none)))))), (ad 2, .inl (G.2.1.1, 16, .inl (σ 2))), (ad 3, .inl (G.2.1.1, 16, .inl (σ 3))), (ad 4, .inl (G.2.1.1, 16, .inl (σ 4))), (ad 5, .inl (G.2.1.1, 16, .inl (σ 5))), (ad 6, .inr (6, [])), (ad 7, .inr (0, [])), (ad 8, .inr (2, [])), (ad 9, .inr (3, [])), (ad 10, .inr (5, [])), (ad 11, .inr (4, []))]
def WWB (G : GP) (ad : Nat → Nat) (σ : Nat → Nat → Int32) : va_W := [(ad 0, .inr (9, [.ref (ad 1), .ref (ad 2), .ref (ad 3), .ref (ad 4), .ref (ad 5)])), (ad 1, .inl (G.2.1.2, 6, .inr (.inr (.inr (.inr (fun j => ([some (ad 6), some (ad 7), some (ad 8), some (ad 9), some (ad 10), some (ad 11)] : List (Option Nat)).getD j none)))))), (ad 2, .inl (G.2.1.1, 16, .inl (σ 2))), (ad 3, .inl (G.2.1.1, 16, .inl (σ 3))), (ad 4, .inl (G.2.1.1, 16, .inl (σ 4))), (ad 5, .inl (G.2.1.1, 16, .inl (σ 5))), (ad 6, .inr (6, [])), (ad 7, .inr (0, [])), (ad 8, .inr (2, [])), (ad 9, .inr (3, [])), (ad 10, .inr (5, [])), (ad 11, .inr (4, [])), (ad 12, .inr (1, [.ref (ad 13), .ref (ad 14), .ref (ad 15), .int (σ 12 3), .int (σ 12 4)])), (ad 13, .inl (G.2.1.1, 4, .inl (σ 13))), (ad 14, .inl (G.2.1.1, 42, .inl (σ 14))), (ad 15, .inl (G.2.1.1, 4, .inl (σ 15)))]
def WC (G : GP) (ad : Nat → Nat) (σ : Nat → Nat → Int32) : va_W := [(ad 0, .inr (10, [.ref (ad 5), .ref (ad 3), .ref (ad 7), .ref (ad 11), .ref (ad 15), .ref (ad 19), .ref (ad 31), .ref (ad 32), .ref (ad 33), .int (σ 0 9)])), (ad 1, .inr (8, [.ref (ad 2), .int (σ 1 1)])), (ad 2, .inl (G.2.1.1, 80, .inl (σ 2))), (ad 3, .inr (8, [.ref (ad 4), .int (σ 3 1)])), (ad 4, .inl (G.2.1.1, 4, .inl (σ 4))), (ad 5, .inr (7, [.ref (ad 1), .ref (ad 6), .int (σ 5 2), .int (σ 5 3)])), (ad 6, .inl (G.2.1.1, 7, .inl (σ 6))), (ad 7, .inr (1, [.ref (ad 8), .ref (ad 9), .ref (ad 10), .int (σ 7 3), .int (σ 7 4)])), (ad 8, .inl (G.2.1.1, 4, .inl (σ 8))), (ad 9, .inl (G.2.1.1, 42, .inl (σ 9))), (ad 10, .inl (G.2.1.1, 4, .inl (σ 10))), (ad 11, .inr (1, [.ref (ad 12), .ref (ad 13), .ref (ad 14), .int (σ 11 3), .int (σ 11 4)])), (ad 12, .inl (G.2.1.1, 4, .inl (σ 12))), (ad 13, .inl (G.2.1.1, 42, .inl (σ 13))), (ad 14, .inl (G.2.1.1, 4, .inl (σ 14))), (ad 15, .inr (1, [.ref (ad 16), .ref (ad 17), .ref (ad 18), .int (σ 15 3), .int (σ 15 4)])), (ad 16, .inl (G.2.1.1, 4, .inl (σ 16))), (ad 17, .inl (G.2.1.1, 42, .inl (σ 17))), (ad 18, .inl (G.2.1.1, 4, .inl (σ 18))), (ad 19, .inr (9, [.ref (ad 20), .ref (ad 21), .ref (ad 22), .ref (ad 23), .ref (ad 24)])), (ad 20, .inl (G.2.1.2, 6, .inr (.inr (.inr (.inr (fun j => ([some (ad 25), some (ad 26), some (ad 27), some (ad 28), some (ad 29), some (ad 30)] : List (Option Nat)).getD j none)))))), (ad 21, .inl (G.2.1.1, 16, .inl (σ 21))), (ad 22, .inl (G.2.1.1, 16, .inl (σ 22))), (ad 23, .inl (G.2.1.1, 16, .inl (σ 23))), (ad 24, .inl (G.2.1.1, 16, .inl (σ 24))), (ad 25, .inr (6, [])), (ad 26, .inr (0, [])), (ad 27, .inr (2, [])), (ad 28, .inr (3, [])), (ad 29, .inr (5, [])), (ad 30, .inr (4, [])), (ad 31, .inl (G.2.1.1, 7, .inl (σ 31))), (ad 32, .inl (G.2.1.1, 16, .inl (σ 32))), (ad 33, .inl (G.2.1.1, 6, .inl (σ 33)))]
def WKX7 (G : GP) (ad : Nat → Nat) (σ : Nat → Nat → Int32) : va_W := [(ad 0, .inr (6, []))]
def WKX0 (G : GP) (ad : Nat → Nat) (σ : Nat → Nat → Int32) : va_W := [(ad 0, .inr (0, []))]
def WKX3 (G : GP) (ad : Nat → Nat) (σ : Nat → Nat → Int32) : va_W := [(ad 0, .inr (2, []))]
def WKX4 (G : GP) (ad : Nat → Nat) (σ : Nat → Nat → Int32) : va_W := [(ad 0, .inr (3, []))]
def WKX6 (G : GP) (ad : Nat → Nat) (σ : Nat → Nat → Int32) : va_W := [(ad 0, .inr (5, []))]
def WKX5 (G : GP) (ad : Nat → Nat) (σ : Nat → Nat → Int32) : va_W := [(ad 0, .inr (4, []))]
def WBN (G : GP) (ad : Nat → Nat) (σ : Nat → Nat → Int32) : va_W := [(ad 0, .inr (1, [.ref (ad 1), .ref (ad 2), .ref (ad 3), .int (σ 0 3), .int (σ 0 4)])), (ad 1, .inl (G.2.1.1, 4, .inl (σ 1))), (ad 2, .inl (G.2.1.1, 42, .inl (σ 2))), (ad 3, .inl (G.2.1.1, 4, .inl (σ 3))), (ad 4, .inl (G.2.1.1, 7, .inl (σ 4)))]
theorem ua_self (σ : Nat → Nat → Int32) (k : Nat) : ua σ k (σ k) = σ := by
  funext j
  unfold ua
  cases h : Nat.beq j k with
  | false => rfl
  | true => rw [Nat.eq_of_beq_eq_true h]; rfl
/-! contracts whose world behind holds cells that nobody looks at: z -/
def QE (G : GP) (ov : Option Value) (wf : (Nat → Nat → Int32) → va_W) (A : Nat → Prop) : Array Value → State → Outcome → State → Prop :=
  fun _ st o t => ∃ z, o = .returned ov ∧ va_P G.1 vwCl (wf z) t.heap ∧ va_F A st t
def CTE (l : Launch) (G : GP) (y : MethodName) (b : ByteArray) (n : Nat) (ret : Option FieldType) (d : Nat) (As : List Value) (wc : va_W) (ov : Option Value) (wf : (Nat → Nat → Int32) → va_W) : Prop :=
  (∀ z, (wf z).map Prod.fst = wc.map Prod.fst) ∧ ∀ sz : Nat, Met l y (.code y b n ret :: BG) (rmx d) (PreX G As wc sz) (QE G ov wf (va_A wc sz)) 0 0 (va_A wc sz)
section XE
variable {p : Program} {l : Launch} {e : Env} {R : Room} {s : State} {m : MethodId} {args : Array Value} {below : List Frame} {meth : Method} {c : Code} {H : Heap} {locs : List Loc} {cells slots : Nat} {Q : State → Prop}
variable {cc : ByteArray} {pc : Nat} {ls : Array Slot} {G : GP} {A : Nat → Prop} {ws wc wc' ws' : va_W} {nL : Nat} {own : String} {y : MethodName} {bytes : ByteArray} {maxL : Nat} {ret : Option FieldType} {d : Nat} {As : List Value} {ov : Option Value} {wf : (Nat → Nat → Int32) → va_W}
theorem x_methE {b : ByteArray} {n : Nat} (own : String) (hown : y.cls = own) (hy : plainName y.cls = true) (hsh : ∀ z, (wf z).map Prod.fst = wc.map Prod.fst) (hlen : (lg_sl As).length ≤ n)
    (body : ∀ (p : Program) (e : Env) (s : State) (m : MethodId) (args : Array Value) (below : List Frame) (meth : Method) (c : Code) (A : Nat → Prop) (ls : Array Slot), CallFix p m c b n s args BG own → meth.sig.returnType = ret → meth.locks = false → Kx G s → Zx G A s s.heap → (∀ q, s.heap.size ≤ q → A q) → Hx G A wc s.heap s.heap [] → lv_has ls n (lv_args 0 As) →
      W p l e (rmx d) s m args below meth c s.heap [] 0 0 (MQ below (QE G ov wf A) args s 0 0 A) (F0 m 0 ls [])) : CTE l G y b n ret d As wc ov wf := by
  refine ⟨hsh, fun sz => ?_⟩
  refine Met.ofW (cc := b) (maxL := n) (ret := ret) hy rfl ?_
  intro p e s m args below meth c s₁ B hml hv
  obtain ⟨rfl, hsz, hP, hD0, hK, hZ⟩ := hv
  have hts := atoms_spec (ws := .code y b n ret :: BG) B.pre
  have hown' : s.vm.findClass own = some m.cls := by rw [← hown]; exact findClass_of_methodNamed B.named
  subst hsz
  have hD := hD0.self (sz := s.heap.size)
  rw [lg_entry_eq]
  exact body p e s m As.toArray below meth c (va_A wc s.heap.size) _ ⟨B.exec, B.bytes, hml, hown', fun w hw => hts w (List.mem_cons_of_mem _ hw)⟩ B.returns B.notSynchronized hK hZ (fun q h => Or.inr h) ⟨hP, hD, va_S.rf⟩ (lv_entry As hlen)
theorem x_runAE {H0 : Heap} {g0 : List Value} {rest : List Value} {a : Array Value} (hH : Hx G A ws H0 H locs) (hsh : ∀ z, (wf z).map Prod.fst = ws.map Prod.fst)
    (hf : ∀ q, va_A ws H.size q → A q)
    (hr : va_Run p l e R s m args below meth c H locs cells slots 0 0 (F0 m pc ls g0) rest (QE G ov wf (va_A ws H.size) a) (va_A ws H.size))
    (kk : ∀ (z : Nat → Nat → Int32) (H1 : Heap) (locs1 : List Loc), Hx G A (wf z) H0 H1 locs1 → W p l e R s m args below meth c H1 locs1 cells slots Q (F0 m (pc + 3) ls (ov.toList ++ rest))) : W p l e R s m args below meth c H locs cells slots Q (F0 m pc ls g0) := by
  intro T hT X
  obtain ⟨v, st₀, t, T', L, h0, X', hL, e1, e2, ⟨z, hv, hp, hz, hk⟩, st⟩ := hr T hT X
  have hv2 : v = ov := by injection hv
  subst hv2
  rw [h0] at hz hk
  have hS := hH.2.2
  obtain ⟨t2, a1, b1⟩ := kk z T'.heap (locs ++ L) (hx_all hH (hsh z) (by rw [e1]; exact hp)
    ⟨Nat.le_trans hS.1 (by rw [e1]; exact hz), fun q h1 h2 => by rw [e1, hk q (Nat.lt_of_lt_of_le h1 hS.1) (fun z => h2 (hf q z))]; exact hS.2.1 q h1 h2, fun q hq => by
      rcases List.mem_append.mp hq with h | h
      · exact hS.2.2 q h
      · exact hf _ (hL q h)⟩) T' rfl X'
  exact ⟨t2, st t2 a1, b1⟩
theorem x_callVAE {b : Addr} {idx n : Nat} {C : String} {rest st' : List Value} {T : u_T} {N : Nat} {fs : List Value} {wg : (Nat → Nat → Int32) → va_W} (hC : CallFix p m c cc nL s args BG own) (hK : Kx G s) (hZ : Zx G A s s.heap) (hA : ∀ q, s.heap.size ≤ q → A q) (hl : ls.size = nL) (hH : Hx G A ws s.heap H locs) (hM : CTE l G y bytes maxL ret d (.ref b :: As) ws ov wf) (lk : xLV own idx C y bytes maxL ret n) (hov : wf = wg) (q0 ci : Nat) (hc : vwCl[ci]? = some (C, T, N)) (he : ws[q0]? = some (b, .inr (ci, fs)))
    (hn : As.length = n) (hroom : d + 1 ≤ R.frames ∧ 8 + (maxL + 11) + 40 * d ≤ R.locals) (hcs : cells + 0 ≤ R.cells ∧ slots + 0 ≤ R.slots) (hrest : (rest.map fun v => v.category).sum ≤ 8) (hst : ov.toList ++ rest = st') (hdg : decode cc pc = .ok (.invokevirtual idx, 3))
    (kk : ∀ (z : Nat → Nat → Int32) (H1 : Heap) (locs1 : List Loc), Hx G A (wg z) s.heap H1 locs1 → W p l e R s m args below meth c H1 locs1 cells slots Q (F0 m (pc + 3) ls st')) : W p l e R s m args below meth c H locs cells slots Q (F0 m pc ls (As.reverse ++ .ref b :: rest)) := by
  subst hst; subst hov
  exact x_runAE hH hM.1 (x_freeA hA hH) (va_runV (As := As) (rest := rest) hC (hM.2 H.size) (cwV n hC.2.2.2.2 lk.1 rfl rfl rfl lk.2 hroom) ⟨PreX.blind, va_recv (D := G.1) hK.1 hH.1 hc he, x_preA hK hZ hA hH (.ref b :: As)⟩ rfl hn hl rfl (lv_room hrest) hdg hcs) kk
theorem x_runE {H0 : Heap} {g0 : List Value} {rest : List Value} {a : Array Value} {wg : (Nat → Nat → Int32) → va_W} (isC : List Nat) (hH : Hx G A ws H0 H locs) (hC : isC.map (fun i => ws[i]?) = wc.map some) (hsh : ∀ z, (wf z).map Prod.fst = wc.map Prod.fst) (hov : ∀ z, ovr ws isC (wf z) = wg z)
    (hf : ∀ q, va_A wc H.size q → A q)
    (hr : va_Run p l e R s m args below meth c H locs cells slots 0 0 (F0 m pc ls g0) rest (QE G ov wf (va_A wc H.size) a) (va_A wc H.size))
    (kk : ∀ (z : Nat → Nat → Int32) (H1 : Heap) (locs1 : List Loc), Hx G A (wg z) H0 H1 locs1 → W p l e R s m args below meth c H1 locs1 cells slots Q (F0 m (pc + 3) ls (ov.toList ++ rest))) : W p l e R s m args below meth c H locs cells slots Q (F0 m pc ls g0) := by
  intro T hT X
  obtain ⟨v, st₀, t, T', L, h0, X', hL, e1, e2, ⟨z, hv, hp, hz, hk⟩, st⟩ := hr T hT X
  have hv2 : v = ov := by injection hv
  subst hv2
  rw [h0] at hz hk
  have hS := hH.2.2
  obtain ⟨t2, a1, b1⟩ := kk z T'.heap (locs ++ L) (hx_ovr isC hH hC (hsh z) (hov z) (fun q h1 h2 => by rw [e1]; exact hk q h1 h2) (by rw [e1]; exact hp)
    ⟨Nat.le_trans hS.1 (by rw [e1]; exact hz), fun q h1 h2 => by rw [e1, hk q (Nat.lt_of_lt_of_le h1 hS.1) (fun z => h2 (hf q z))]; exact hS.2.1 q h1 h2, fun q hq => by
      rcases List.mem_append.mp hq with h | h
      · exact hS.2.2 q h
      · exact hf _ (hL q h)⟩) T' rfl X'
  exact ⟨t2, st t2 a1, b1⟩
theorem x_callVE {b : Addr} {idx n : Nat} {C : String} {rest st' : List Value} {T : u_T} {N : Nat} {fs : List Value} {wg : (Nat → Nat → Int32) → va_W} (hC : CallFix p m c cc nL s args BG own) (hK : Kx G s) (hZ : Zx G A s s.heap) (hA : ∀ q, s.heap.size ≤ q → A q) (hl : ls.size = nL) (hH : Hx G A ws s.heap H locs) (hM : CTE l G y bytes maxL ret d (.ref b :: As) wc ov wf) (lk : xLV own idx C y bytes maxL ret n) (isC : List Nat) (hCm : isC.map (fun i => ws[i]?) = wc.map some) (hnd : va_nd isC = true) (hov : ∀ z, ovr ws isC (wf z) = wg z) (q0 ci : Nat) (hc : vwCl[ci]? = some (C, T, N)) (he : ws[q0]? = some (b, .inr (ci, fs)))
    (hn : As.length = n) (hroom : d + 1 ≤ R.frames ∧ 8 + (maxL + 11) + 40 * d ≤ R.locals) (hcs : cells + 0 ≤ R.cells ∧ slots + 0 ≤ R.slots) (hrest : (rest.map fun v => v.category).sum ≤ 8) (hst : ov.toList ++ rest = st') (hdg : decode cc pc = .ok (.invokevirtual idx, 3))
    (kk : ∀ (z : Nat → Nat → Int32) (H1 : Heap) (locs1 : List Loc), Hx G A (wg z) s.heap H1 locs1 → W p l e R s m args below meth c H1 locs1 cells slots Q (F0 m (pc + 3) ls st')) : W p l e R s m args below meth c H locs cells slots Q (F0 m pc ls (As.reverse ++ .ref b :: rest)) := by
  subst hst
  obtain ⟨hf, hpre⟩ := x_pre isC hK hZ hA hH hCm hnd (.ref b :: As)
  exact x_runE isC hH hCm hM.1 hov hf (va_runV (As := As) (rest := rest) hC (hM.2 H.size) (cwV n hC.2.2.2.2 lk.1 rfl rfl rfl lk.2 hroom) ⟨PreX.blind, va_recv (D := G.1) hK.1 hH.1 hc he, hpre⟩ rfl hn hl rfl (lv_room hrest) hdg hcs) kk
theorem x_qe {v : Option Value} (z : Nat → Nat → Int32) (hH : Hx G A ws s.heap H locs) (hv : ov = v) (hw : wf z = ws) : ∀ t : State, t.heap = H → s.WarmedH t.vm → QE G ov wf A args s (.returned v) t := by
  subst hv; subst hw
  exact fun t ht _ => ⟨z, rfl, by rw [ht]; exact hH.1, hH.2.2.F ht⟩
theorem x_iretE {r v : Int32} (z : Nat → Nat → Int32) (hC : CallFix p m c cc nL s args BG own) (hr : meth.sig.returnType = some .int) (hk : meth.locks = false) (hH : Hx G A ws s.heap H locs) (hv : r = v) (hw : wf z = ws) (hdg : decode cc pc = .ok (.ireturn, 1)) : W p l e R s m args below meth c H locs 0 0 (MQ below (QE G (some (.int r)) wf A) args s 0 0 A) (F0 m pc ls [.int v]) :=
  W.iret hC.1 hC.2.1 hr (x_qe z hH (by rw [hv]) hw) hH.2.2.2.2 hdg hk
theorem x_zretE {r v : Int32} {ty : FieldType} (z : Nat → Nat → Int32) (hC : CallFix p m c cc nL s args BG own) (hr : meth.sig.returnType = some ty) (hk : meth.locks = false) (hH : Hx G A ws s.heap H locs) (hn : narrow ty (.int r) = .int r) (hv : r = v) (hw : wf z = ws) (hdg : decode cc pc = .ok (.ireturn, 1)) : W p l e R s m args below meth c H locs 0 0 (MQ below (QE G (some (.int r)) wf A) args s 0 0 A) (F0 m pc ls [.int v]) :=
  W.zret hC.1 hC.2.1 hr (by rw [← hv]; exact hn) (x_qe z hH (by rw [hv]) hw) hH.2.2.2.2 hdg hk
theorem x_lretE {r v : Int64} (z : Nat → Nat → Int32) (hC : CallFix p m c cc nL s args BG own) (hr : meth.sig.returnType = some .long) (hk : meth.locks = false) (hH : Hx G A ws s.heap H locs) (hv : r = v) (hw : wf z = ws) (hdg : decode cc pc = .ok (.lreturn, 1)) : W p l e R s m args below meth c H locs 0 0 (MQ below (QE G (some (.long r)) wf A) args s 0 0 A) (F0 m pc ls [.long v]) :=
  W.lret hC.1 hC.2.1 hr (x_qe z hH (by rw [hv]) hw) hH.2.2.2.2 hdg hk
theorem x_vretE (z : Nat → Nat → Int32) (hC : CallFix p m c cc nL s args BG own) (hr : meth.sig.returnType = none) (hk : meth.locks = false) (hH : Hx G A ws s.heap H locs) (hw : wf z = ws) (hdg : decode cc pc = .ok (.return_, 1)) : W p l e R s m args below meth c H locs 0 0 (MQ below (QE G none wf A) args s 0 0 A) (F0 m pc ls []) :=
  W.vret hC.1 hC.2.1 hr (x_qe z hH rfl hw) hH.2.2.2.2 hdg hk
theorem x_topE {x y : Int32} {rest : List Value} (h : x = y) (k : W p l e R s m args below meth c H locs cells slots Q (F0 m pc ls (.int y :: rest))) : W p l e R s m args below meth c H locs cells slots Q (F0 m pc ls (.int x :: rest)) := by rw [h]; exact k
theorem x_topL {x y : Int64} {rest : List Value} (h : x = y) (k : W p l e R s m args below meth c H locs cells slots Q (F0 m pc ls (.long y :: rest))) : W p l e R s m args below meth c H locs cells slots Q (F0 m pc ls (.long x :: rest)) := by rw [h]; exact k
theorem x_aalN {a q : Addr} {rest : List Value} {n : Nat} {f : Nat → Option Nat} {i : Int32} (hC : CallFix p m c cc nL s args BG own) (hK : Kx G s) (hH : Hx G A ws s.heap H locs) (q0 j : Nat) (ha : ws[q0]? = some (a, .inl (G.2.1.2, n, .inr (.inr (.inr (.inr f)))))) (hi : i = nI j) (hj : j < n) (hn : n < 1000) (hf : f j = some q) (hdg : decode cc pc = .ok (.aaload, 1))
    (kk : W p l e R s m args below meth c H locs cells slots Q (F0 m (pc + 1) ls (.ref q :: rest))) : W p l e R s m args below meth c H locs cells slots Q (F0 m pc ls (.int i :: .ref a :: rest)) := by
  subst hi
  refine va_aldq hC.1 hC.2.1 hK.1 hH.1 q0 1 ha (C := "BetsOnBets$Bet") rfl (vp_in_nI hj (by omega)) hdg ?_
  rw [nI_clamp (by omega), hf]
  exact kk
theorem x_alenq {a : Addr} {rest : List Value} {n : Nat} {f : Nat → Option Nat} (hC : CallFix p m c cc nL s args BG own) (hK : Kx G s) (hH : Hx G A ws s.heap H locs) (q0 : Nat) (ha : ws[q0]? = some (a, .inl (G.2.1.2, n, .inr (.inr (.inr (.inr f)))))) {v : Int32} (hv : Int32.ofNat n = v) (hdg : decode cc pc = .ok (.arraylength, 1))
    (kk : W p l e R s m args below meth c H locs cells slots Q (F0 m (pc + 1) ls (.int v :: rest))) : W p l e R s m args below meth c H locs cells slots Q (F0 m pc ls (.ref a :: rest)) :=
  va_alen hC.1 hC.2.1 hK.1 hH.1 q0 1 ha (ty := .object "BetsOnBets$Bet") rfl hv hdg kk
/-- ways that meet -/
theorem x_meet1 {H0 : Heap} {g : JFrame} (ws : va_W) (lv : List (Nat × Value)) (pc1 : Nat) (st : List Value)
    (h1 : ∀ (H : Heap) (locs : List Loc) (ls : Array Slot), Hx G A ws H0 H locs → lv_has ls nL lv → W p l e R s m args below meth c H locs cells slots Q (F0 m pc1 ls st))
    (h2 : (∀ (H : Heap) (locs : List Loc) (ls : Array Slot), Hx G A ws H0 H locs → lv_has ls nL lv → W p l e R s m args below meth c H locs cells slots Q (F0 m pc1 ls st)) → W p l e R s m args below meth c H locs cells slots Q g) : W p l e R s m args below meth c H locs cells slots Q g := h2 h1
/-- a row of ints is what it holds within its length -/
theorem hx_arr {a : Addr} {n : Nat} {f g : Nat → Int32} {cA : ClassId} {H0 : Heap} (q0 : Nat) (hH : Hx G A ws H0 H locs) (ha : ws[q0]? = some (a, .inl (cA, n, .inl f))) (hfg : ∀ j, j < n → f j = g j) (hw : ws.set q0 (a, .inl (cA, n, .inl g)) = ws') : Hx G A ws' H0 H locs := by
  subst hw
  refine ⟨hH.1.set hH.2.1 ha ?_ (fun _ _ => rfl), hH.2.1.set ha, hH.2.2⟩
  have h1 := hH.1 q0 _ ha
  show H[a]? = some (vp_cell cA (n, .inl g))
  have h2 : H[a]? = some (vp_cell cA (n, .inl f)) := h1
  rw [h2]
  rw [vp_cell_i, vp_cell_i]
  have e : (fun j : Fin n => Value.int (f j.val)) = (fun j : Fin n => Value.int (g j.val)) := by
    funext j
    rw [hfg j.val j.isLt]
  unfold arrV
  exact congrArg (fun (z : Fin n → Value) => some ({ cls := cA, slots := Array.ofFn (n := n) z, vm := .none } : Cell)) e
end XE

