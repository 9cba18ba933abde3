/-! THE LAYER: contracts with one answer and one world behind, calls that keep the places of the cells -/
abbrev GP : Type := va_G × (ClassId × ClassId) × (Nat → Nat) × (Nat → Nat)
def tyG (G : GP) : List (ClassId × FieldType) := [(G.2.1.1, .int), (G.2.1.2, .object "BetsOnBets$Bet")]
def sIdx : List Nat := [46, 62, 68, 73, 64, 66]
def sTx : List String := ["hbf", "0123456789", "paoexn", "hb", ",", ";"]
def sLen : List Nat := [3, 10, 6, 2, 1, 1]
def sByt : List (List Int32) := [[104, 98, 102], [48, 49, 50, 51, 52, 53, 54, 55, 56, 57], [112, 97, 111, 101, 120, 110], [104, 98], [44], [59]]
def nstB : Cond → Bool
  | .methodLinkNest .. => true
  | .fieldLinkNest .. => true
  | .castable .. => true
  | .declares .. => true
  | _ => false
def NW (U : State) : Prop := ∀ w ∈ nestW, va_Nw w U
theorem nestW_ok : nestW.all nstB = true := by decide +kernel
theorem nw_ot {w : Cond} (h : nstB w = true) : w.onTables = true := by
  cases w <;> first | rfl | (simp [nstB] at h; done)
theorem nw_warm1 {w : Cond} (h : nstB w = true) {s U : State} (hW : s.WarmedH U.vm) (hz : va_Nw w s) : va_Nw w U := by
  cases w <;> first | exact va_Nw.warmM hW hz | exact va_Nw.warmF hW hz | exact va_Nw.warmC hW hz | exact va_Nw.warmD hW hz | (simp [nstB] at h; done)
theorem nw_b {w : Cond} (h : w ∈ nestW) : nstB w = true := List.all_eq_true.mp nestW_ok w h
theorem NW.warm {s U : State} (hW : s.WarmedH U.vm) (h : NW s) : NW U := fun w hw => nw_warm1 (nw_b hw) hW (h w hw)
theorem NW.same {s U : State} (hv : s.vm = U.vm) (h : NW s) : NW U := fun w hw => va_Nw.same (nw_ot (nw_b hw)) hv (h w hw)
def SR (G : GP) (U : State) : Prop := ∀ k, k < 6 → vk_R "BetsOnBets$Reader" (sIdx.getD k 0) (sTx.getD k "") (G.2.2.1 k) U
theorem SR.warm {G : GP} {s U : State} (hW : s.WarmedH U.vm) (h : SR G s) : SR G U := fun k hk => vk_R.warm hW (h k hk)
theorem SR.same {G : GP} {s U : State} (hv : U.vm = s.vm) (h : SR G s) : SR G U := fun k hk => vk_R.same hv (h k hk)
def Kx (G : GP) (U : State) : Prop := va_K G.1 vwCl (tyG G) U ∧ NW U ∧ SR G U ∧ va_AO "BetsOnBets$Bet" U
theorem Kx.warm {G : GP} {s U : State} (hW : s.WarmedH U.vm) (h : Kx G s) : Kx G U := ⟨va_K.moved hW.alike h.1, h.2.1.warm hW, h.2.2.1.warm hW, h.2.2.2.moved hW.alike⟩
theorem Kx.same {G : GP} {s U : State} (hv : s.vm = U.vm) (h : Kx G s) : Kx G U := ⟨va_K.moved (by rw [hv]; exact Vm.Alike.refl U.vm) h.1, h.2.1.same hv, h.2.2.1.same hv.symm, h.2.2.2.moved (by rw [hv]; exact Vm.Alike.refl U.vm)⟩
def Zx (G : GP) (A : Nat → Prop) (U : State) (H : Heap) : Prop := vk_S 6 sLen sByt G.2.2.1 G.2.2.2 A U H ∧ va_Z "java/lang/String" "COMPACT_STRINGS" "Z" (.int 1) A U H
theorem Zx.moved {G : GP} {A : Nat → Prop} {u U : State} {H : Heap} (hvm : u.vm.Alike U.vm) (h : Zx G A u H) : Zx G A U H := ⟨h.1.moved hvm, h.2.moved hvm⟩
theorem Zx.kept {G : GP} {A : Nat → Prop} {U : State} {H H1 : Heap} (h : Zx G A U H) (hq : ∀ a : Nat, a < H.size → ¬ A a → H1[a]? = H[a]?) : Zx G A U H1 := ⟨h.1.kept hq, h.2.kept hq⟩
theorem Zx.narrow {G : GP} {A B : Nat → Prop} {U : State} {H : Heap} (h : Zx G A U H) (hAB : ∀ q, B q → A q) : Zx G B U H := ⟨h.1.narrow hAB, h.2.narrow hAB⟩
def Hx (G : GP) (A : Nat → Prop) (ws : va_W) (H0 H : Heap) (locs : List Loc) : Prop := va_P G.1 vwCl ws H ∧ va_D A ws ∧ va_S A H0 H locs
def PreX (G : GP) (As : List Value) (wc : va_W) (sz : Nat) : Array Value → State → Prop :=
  va_Pc As (fun U => U.heap.size = sz ∧ va_P G.1 vwCl wc U.heap ∧ va_D (fun _ => True) wc ∧ Kx G U ∧ Zx G (va_A wc sz) U U.heap)
def QX (G : GP) (ov : Option Value) (wc' : va_W) (A : Nat → Prop) : Array Value → State → Outcome → State → Prop :=
  fun _ st o t => o = .returned ov ∧ va_P G.1 vwCl wc' t.heap ∧ va_F A st t
abbrev rmx (d : Nat) : Room := { frames := d, cells := 0, slots := 0, locals := 40 * d }
/-- THE CONTRACT: with these arguments and these cells the method answers ov and leaves the cells wc', makes none, depth d -/
def CT (l : Launch) (G : GP) (y : MethodName) (b : ByteArray) (n : Nat) (ret : Option FieldType) (d : Nat) (As : List Value) (wc : va_W) (ov : Option Value) (wc' : va_W) : Prop :=
  wc'.map Prod.fst = wc.map Prod.fst ∧ ∀ sz : Nat, Met l y (.code y b n ret :: BG) (rmx d) (PreX G As wc sz) (QX G ov wc' (va_A wc sz)) 0 0 (va_A wc sz)
theorem PreX.blind {G : GP} {As : List Value} {wc : va_W} {sz : Nat} : FrameBlind (PreX G As wc sz) := by
  intro a U g mk h
  obtain ⟨h1, h2, h3, h4, h5, h6⟩ := h
  exact ⟨h1, h2, h3, h4, Kx.same (s := U) (U := U.calling g mk a) rfl h5, Zx.moved (u := U) (U := U.calling g mk a) (Vm.Alike.refl U.vm) h6⟩
section XM
variable {l : Launch} {G : GP} {y : MethodName} {b : ByteArray} {n : Nat} {ret : Option FieldType} {d : Nat} {As : List Value} {wc wc' : va_W} {ov : Option Value}
theorem x_meth (own : String) (hown : y.cls = own) (hy : plainName y.cls = true) (hsh : wc'.map Prod.fst = wc.map Prod.fst) (hlen : (lg_sl As).length ≤ n)
    (body : ∀ (p : Program) (e : Env) (s : State) (m : MethodId) (args : Array Value) (below : List Frame) (meth : Method) (c : Code) (A : Nat → Prop) (ls : Array Slot), CallFix p m c b n s args BG own → meth.sig.returnType = ret → meth.locks = false → Kx G s → Zx G A s s.heap → (∀ q, s.heap.size ≤ q → A q) → Hx G A wc s.heap s.heap [] → lv_has ls n (lv_args 0 As) →
      W p l e (rmx d) s m args below meth c s.heap [] 0 0 (MQ below (QX G ov wc' A) args s 0 0 A) (F0 m 0 ls [])) : CT l G y b n ret d As wc ov wc' := by
  refine ⟨hsh, fun sz => ?_⟩
  refine Met.ofW (cc := b) (maxL := n) (ret := ret) hy rfl ?_
  intro p e s m args below meth c s₁ B hml hv
  obtain ⟨rfl, hsz, hP, hD0, hK, hZ⟩ := hv
  have hts := atoms_spec (ws := .code y b n ret :: BG) B.pre
  have hown' : s.vm.findClass own = some m.cls := by rw [← hown]; exact findClass_of_methodNamed B.named
  subst hsz
  have hD := hD0.self (sz := s.heap.size)
  rw [lg_entry_eq]
  exact body p e s m As.toArray below meth c (va_A wc s.heap.size) _ ⟨B.exec, B.bytes, hml, hown', fun w hw => hts w (List.mem_cons_of_mem _ hw)⟩ B.returns B.notSynchronized hK hZ (fun q h => Or.inr h) ⟨hP, hD, va_S.rf⟩ (lv_entry As hlen)
end XM
/-- the world with the callee's cells laid back at their places -/
def ovr : va_W → List Nat → va_W → va_W
  | ws, i :: is, q :: qs => ovr (ws.set i q) is qs
  | ws, _, _ => ws
theorem ovr_at : ∀ (is : List Nat) (qs ws : va_W) (hl : is.length = qs.length) (k : Nat) (p : Nat × va_E), (ovr ws is qs)[k]? = some p → (∃ j : Nat, is[j]? = some k ∧ qs[j]? = some p) ∨ (ws[k]? = some p ∧ k ∉ is) := by
  intro is
  induction is with
  | nil => intro qs ws hl k p h; exact Or.inr ⟨by simpa [ovr] using h, by simp⟩
  | cons i is ih =>
    intro qs ws hl k p h
    cases qs with
    | nil => simp at hl
    | cons q qs =>
      have h' : (ovr (ws.set i q) is qs)[k]? = some p := h
      rcases ih qs (ws.set i q) (by simpa using hl) k p h' with ⟨j, h1, h2⟩ | ⟨h1, h2⟩
      · exact Or.inl ⟨j + 1, by simpa using h1, by simpa using h2⟩
      · by_cases hki : i = k
        · subst hki
          rw [List.getElem?_set] at h1
          by_cases hlt : i < ws.length
          · simp [hlt] at h1
            exact Or.inl ⟨0, by simp, by simp [h1]⟩
          · simp [hlt] at h1
        · rw [List.getElem?_set_ne hki] at h1
          refine Or.inr ⟨h1, ?_⟩
          intro hm
          rcases List.mem_cons.mp hm with e | e
          · exact hki e.symm
          · exact h2 e
theorem hx_ovr {G : GP} {A : Nat → Prop} {ws wc wc' ws' : va_W} {H0 H H1 : Heap} {locs locs1 : List Loc} (isC : List Nat) (hH : Hx G A ws H0 H locs) (hC : isC.map (fun i => ws[i]?) = wc.map some) (hsh : wc'.map Prod.fst = wc.map Prod.fst) (hov : ovr ws isC wc' = ws')
    (hk : ∀ q : Nat, q < H.size → ¬ va_A wc H.size q → H1[q]? = H[q]?) (hP1 : va_P G.1 vwCl wc' H1) (hS1 : va_S A H0 H1 locs1) : Hx G A ws' H0 H1 locs1 := by
  subst hov
  obtain ⟨hP, hD, hS⟩ := hH
  have hlen : isC.length = wc'.length := by
    have h1 := congrArg List.length hC
    have h2 := congrArg List.length hsh
    simp at h1 h2
    omega
  have cw : ∀ (j : Nat) (q : Nat × va_E), wc[j]? = some q → ∃ i, isC[j]? = some i ∧ ws[i]? = some q := by
    intro j q hq
    have h1 : (isC.map (fun i => ws[i]?))[j]? = some (some q) := by rw [hC, List.getElem?_map, hq]; rfl
    rw [List.getElem?_map] at h1
    cases hi : isC[j]? with
    | none => rw [hi] at h1; cases h1
    | some i => rw [hi] at h1; exact ⟨i, rfl, Option.some.inj h1⟩
  have sh : ∀ (j : Nat) (p : Nat × va_E), wc'[j]? = some p → ∃ q, wc[j]? = some q ∧ q.1 = p.1 := by
    intro j p hp
    have h1 : (wc'.map Prod.fst)[j]? = some p.1 := by rw [List.getElem?_map, hp]; rfl
    rw [hsh, List.getElem?_map] at h1
    cases hq : wc[j]? with
    | none => rw [hq] at h1; cases h1
    | some q => rw [hq] at h1; exact ⟨q, rfl, Option.some.inj h1⟩
  have key : ∀ (k : Nat) (p : Nat × va_E), (ovr ws isC wc')[k]? = some p → va_at G.1 vwCl p H1 ∧ ∃ p', ws[k]? = some p' ∧ p'.1 = p.1 := by
    intro k p hp
    rcases ovr_at isC wc' ws hlen k p hp with ⟨j, h1, h2⟩ | ⟨h1, h2⟩
    · refine ⟨hP1 j p h2, ?_⟩
      obtain ⟨q, g1, g2⟩ := sh j p h2
      obtain ⟨i, g3, g4⟩ := cw j q g1
      have : i = k := Option.some.inj (g3.symm.trans h1)
      subst this
      exact ⟨q, g4, g2⟩
    · refine ⟨(hP k p h1).kept (hk p.1 (hP k p h1).lt ?_), p, h1, rfl⟩
      intro hA
      rcases hA with ⟨j, e, hj⟩ | hz
      · obtain ⟨i, g3, g4⟩ := cw j (p.1, e) hj
        have : k = i := hD.1 k i p (p.1, e) h1 g4 rfl
        subst this
        exact h2 (List.mem_of_getElem? g3)
      · exact absurd (hP k p h1).lt (by omega)
  refine ⟨fun k p hp => (key k p hp).1, ⟨fun i j p q hi hj e => ?_, fun k p hp => ?_⟩, hS1⟩
  · obtain ⟨-, p', g1, g2⟩ := key i p hi
    obtain ⟨-, q', g3, g4⟩ := key j q hj
    exact hD.1 i j p' q' g1 g3 (by rw [g2, g4]; exact e)
  · obtain ⟨-, p', g1, g2⟩ := key k p hp
    rw [← g2]
    exact hD.2 k p' g1
section XC
variable {p : Program} {l : Launch} {e : Env} {R : Room} {s : State} {m : MethodId} {args : Array Value} {below : List Frame} {meth : Method} {c : Code} {H : Heap} {locs : List Loc} {cells slots : Nat} {Q : State → Prop}
variable {cc : ByteArray} {pc : Nat} {ls : Array Slot} {G : GP} {A : Nat → Prop} {ws wc wc' ws' : va_W} {nL : Nat} {own : String} {y : MethodName} {bytes : ByteArray} {maxL : Nat} {ret : Option FieldType} {d : Nat} {As : List Value} {ov : Option Value}
theorem x_run {H0 : Heap} {g0 : List Value} {rest : List Value} {a : Array Value} (isC : List Nat) (hH : Hx G A ws H0 H locs) (hC : isC.map (fun i => ws[i]?) = wc.map some) (hsh : wc'.map Prod.fst = wc.map Prod.fst) (hov : ovr ws isC wc' = ws')
    (hf : ∀ q, va_A wc H.size q → A q)
    (hr : va_Run p l e R s m args below meth c H locs cells slots 0 0 (F0 m pc ls g0) rest (QX G ov wc' (va_A wc H.size) a) (va_A wc H.size))
    (kk : ∀ (H1 : Heap) (locs1 : List Loc), Hx G A ws' H0 H1 locs1 → W p l e R s m args below meth c H1 locs1 cells slots Q (F0 m (pc + 3) ls (ov.toList ++ rest))) : W p l e R s m args below meth c H locs cells slots Q (F0 m pc ls g0) := by
  intro T hT X
  obtain ⟨v, st₀, t, T', L, h0, X', hL, e1, e2, ⟨hv, hp, hz, hk⟩, st⟩ := hr T hT X
  have hv2 : v = ov := by injection hv
  subst hv2
  rw [h0] at hz hk
  have hS := hH.2.2
  obtain ⟨t2, a1, b1⟩ := kk T'.heap (locs ++ L) (hx_ovr isC hH hC hsh hov (fun q h1 h2 => by rw [e1]; exact hk q h1 h2) (by rw [e1]; exact hp)
    ⟨Nat.le_trans hS.1 (by rw [e1]; exact hz), fun q h1 h2 => by rw [e1, hk q (Nat.lt_of_lt_of_le h1 hS.1) (fun z => h2 (hf q z))]; exact hS.2.1 q h1 h2, fun q hq => by
      rcases List.mem_append.mp hq with h | h
      · exact hS.2.2 q h
      · exact hf _ (hL q h)⟩) T' rfl X'
  exact ⟨t2, st t2 a1, b1⟩
/-- the callee's start out of the caller's -/
theorem x_pre (isC : List Nat) (hK : Kx G s) (hZ : Zx G A s s.heap) (hA : ∀ q, s.heap.size ≤ q → A q) (hH : Hx G A ws s.heap H locs) (hC : isC.map (fun i => ws[i]?) = wc.map some) (hnd : va_nd isC = true) (As : List Value) :
    (∀ q, va_A wc H.size q → A q) ∧ ∀ U : State, U.heap = H → s.WarmedH U.vm → PreX G As wc H.size As.toArray U := by
  have hf := va_free (wc := wc) hH.2.1 hH.2.2 hA isC hC
  refine ⟨hf, fun U hU hW => ⟨rfl, by rw [hU], ?_, ?_, hK.warm hW, ?_⟩⟩
  · rw [hU]
    intro k q hq
    have h1 : (isC.map (fun i => ws[i]?))[k]? = some (some q) := by rw [hC, List.getElem?_map, hq]; rfl
    rw [List.getElem?_map] at h1
    cases hi : isC[k]? with
    | none => rw [hi] at h1; cases h1
    | some i => rw [hi] at h1; exact hH.1 i q (Option.some.inj h1)
  · exact (hH.2.1.sub isC hnd hC).weaken (fun _ _ _ _ => trivial)
  · rw [hU]
    exact ((hZ.kept (H1 := H) (fun a h1 h2 => hH.2.2.2.1 a h1 h2)).narrow hf).moved hW.alike
/-- a call's words -/
def xLV (own : String) (idx : Nat) (C : String) (y : MethodName) (bytes : ByteArray) (maxL : Nat) (ret : Option FieldType) (n : Nat) : Prop := GoodIn BG (wsV own idx C y (.code y bytes maxL ret :: BG)) ∧ (y.cls = C ∧ y.cls ≠ "java/lang/invoke/MethodHandle" ∧ y.cls ≠ "java/lang/invoke/VarHandle" ∧ (parseMethodDescriptor y.desc).map (fun d => d.parameters.length) = some n)
def xLS (own : String) (idx : Nat) (y : MethodName) (bytes : ByteArray) (maxL : Nat) (ret : Option FieldType) (n : Nat) : Prop := GoodIn BG (wsS own idx y (.code y bytes maxL ret :: BG)) ∧ (y.cls = own ∧ y.cls ≠ "java/lang/invoke/MethodHandle" ∧ y.cls ≠ "java/lang/invoke/VarHandle" ∧ (parseMethodDescriptor y.desc).map (fun d => d.parameters.length) = some n)
def xLJ (own : String) (idx : Nat) (y : MethodName) (bytes : ByteArray) (maxL : Nat) (ret : Option FieldType) (n : Nat) : Prop := GoodIn BG (va_wsS own idx y (.code y bytes maxL ret :: BG)) ∧ (y.cls ≠ "java/lang/invoke/MethodHandle" ∧ y.cls ≠ "java/lang/invoke/VarHandle" ∧ (parseMethodDescriptor y.desc).map (fun d => d.parameters.length) = some n)
def xLN (own : String) (idx : Nat) (y : MethodName) (host : String) (bytes : ByteArray) (maxL : Nat) (ret : Option FieldType) (n : Nat) : Prop := GoodIn BG (.code y bytes maxL ret :: BG) ∧ Cond.methodLinkNest own idx y host ∈ nestW ∧ Cond.initialized y.cls ∈ BG ∧ Cond.static y ∈ BG ∧ (y.cls ≠ "java/lang/invoke/MethodHandle" ∧ y.cls ≠ "java/lang/invoke/VarHandle" ∧ (parseMethodDescriptor y.desc).map (fun d => d.parameters.length) = some n)
theorem bg_in : GoodIn BG BG := fun w h => ⟨h, good_of_word (bg_good w h)⟩
theorem bg_all {ws : List Cond} (h : ∀ w ∈ ws, w ∈ BG) : GoodIn BG ws := fun w hw => ⟨h w hw, good_of_word (bg_good w (h w hw))⟩
theorem bg_cons {w : Cond} {ws : List Cond} (h : w ∈ BG) (h2 : ∀ w ∈ ws, w ∈ BG) : ∀ z ∈ w :: ws, z ∈ BG := fun z hz => (List.mem_cons.mp hz).elim (fun e => e ▸ h) (h2 z)
theorem bg_id : ∀ w ∈ BG, w ∈ BG := fun _ h => h
theorem xLV.of {own : String} {idx : Nat} {C : String} {y : MethodName} {bytes : ByteArray} {maxL : Nat} {ret : Option FieldType} {n : Nat} (h1 : Cond.methodLink own idx y ∈ BG) (h2 : Cond.instanceMethod y ∈ BG) (h3 : Cond.selects C y y ∈ BG) (h4 : Cond.initialized C ∈ BG) (h5 : Cond.code y bytes maxL ret ∈ BG)
    (hd : y.cls = C ∧ y.cls ≠ "java/lang/invoke/MethodHandle" ∧ y.cls ≠ "java/lang/invoke/VarHandle" ∧ (parseMethodDescriptor y.desc).map (fun d => d.parameters.length) = some n) : xLV own idx C y bytes maxL ret n :=
  ⟨bg_all (bg_cons h1 (bg_cons h2 (bg_cons h3 (bg_cons h4 (bg_cons h5 bg_id))))), hd⟩
theorem xLS.of {own : String} {idx : Nat} {y : MethodName} {bytes : ByteArray} {maxL : Nat} {ret : Option FieldType} {n : Nat} (h1 : Cond.methodLink own idx y ∈ BG) (h2 : Cond.static y ∈ BG) (h4 : Cond.initialized own ∈ BG) (h5 : Cond.code y bytes maxL ret ∈ BG)
    (hd : y.cls = own ∧ y.cls ≠ "java/lang/invoke/MethodHandle" ∧ y.cls ≠ "java/lang/invoke/VarHandle" ∧ (parseMethodDescriptor y.desc).map (fun d => d.parameters.length) = some n) : xLS own idx y bytes maxL ret n :=
  ⟨bg_all (bg_cons h1 (bg_cons h2 (bg_cons h4 (bg_cons h5 bg_id)))), hd⟩
theorem xLN.of {own : String} {idx : Nat} {y : MethodName} {host : String} {bytes : ByteArray} {maxL : Nat} {ret : Option FieldType} {n : Nat} (h1 : Cond.methodLinkNest own idx y host ∈ nestW) (h2 : Cond.static y ∈ BG) (h4 : Cond.initialized y.cls ∈ BG) (h5 : Cond.code y bytes maxL ret ∈ BG)
    (hd : y.cls ≠ "java/lang/invoke/MethodHandle" ∧ y.cls ≠ "java/lang/invoke/VarHandle" ∧ (parseMethodDescriptor y.desc).map (fun d => d.parameters.length) = some n) : xLN own idx y host bytes maxL ret n :=
  ⟨bg_all (bg_cons h5 bg_id), h1, h4, h2, hd⟩
theorem xLJ.of {own : String} {idx : Nat} {y : MethodName} {bytes : ByteArray} {maxL : Nat} {ret : Option FieldType} {n : Nat} (h1 : Cond.methodLink own idx y ∈ BG) (h2 : Cond.static y ∈ BG) (h4 : Cond.initialized y.cls ∈ BG) (h5 : Cond.code y bytes maxL ret ∈ BG)
    (hd : y.cls ≠ "java/lang/invoke/MethodHandle" ∧ y.cls ≠ "java/lang/invoke/VarHandle" ∧ (parseMethodDescriptor y.desc).map (fun d => d.parameters.length) = some n) : xLJ own idx y bytes maxL ret n :=
  ⟨bg_all (bg_cons h1 (bg_cons h2 (bg_cons h4 (bg_cons h5 bg_id)))), hd⟩
theorem x_callV {b : Addr} {idx n : Nat} {C : String} {rest st' : List Value} {T : u_T} {N : Nat} {fs : List Value} (hC : CallFix p m c cc nL s args BG own) (hK : Kx G s) (hZ : Zx G A s s.heap) (hA : ∀ q, s.heap.size ≤ q → A q) (hl : ls.size = nL) (hH : Hx G A ws s.heap H locs) (hM : CT l G y bytes maxL ret d (.ref b :: As) wc ov wc') (lk : xLV own idx C y bytes maxL ret n) (isC : List Nat) (hCm : isC.map (fun i => ws[i]?) = wc.map some) (hnd : va_nd isC = true) (hov : ovr ws isC wc' = ws') (q0 ci : Nat) (hc : vwCl[ci]? = some (C, T, N)) (he : ws[q0]? = some (b, .inr (ci, fs)))
    (hn : As.length = n) (hroom : d + 1 ≤ R.frames ∧ 8 + (maxL + 11) + 40 * d ≤ R.locals) (hcs : cells + 0 ≤ R.cells ∧ slots + 0 ≤ R.slots) (hrest : (rest.map fun v => v.category).sum ≤ 8) (hst : ov.toList ++ rest = st') (hdg : decode cc pc = .ok (.invokevirtual idx, 3))
    (kk : ∀ (H1 : Heap) (locs1 : List Loc), Hx G A ws' s.heap H1 locs1 → W p l e R s m args below meth c H1 locs1 cells slots Q (F0 m (pc + 3) ls st')) : W p l e R s m args below meth c H locs cells slots Q (F0 m pc ls (As.reverse ++ .ref b :: rest)) := by
  subst hst
  obtain ⟨hf, hpre⟩ := x_pre isC hK hZ hA hH hCm hnd (.ref b :: As)
  exact x_run isC hH hCm hM.1 hov hf (va_runV (As := As) (rest := rest) hC (hM.2 H.size) (cwV n hC.2.2.2.2 lk.1 rfl rfl rfl lk.2 hroom) ⟨PreX.blind, va_recv (D := G.1) hK.1 hH.1 hc he, hpre⟩ rfl hn hl rfl (lv_room hrest) hdg hcs) kk
theorem x_callS {idx n : Nat} {rest st' : List Value} (hC : CallFix p m c cc nL s args BG own) (hK : Kx G s) (hZ : Zx G A s s.heap) (hA : ∀ q, s.heap.size ≤ q → A q) (hl : ls.size = nL) (hH : Hx G A ws s.heap H locs) (hM : CT l G y bytes maxL ret d As wc ov wc') (lk : xLS own idx y bytes maxL ret n) (isC : List Nat) (hCm : isC.map (fun i => ws[i]?) = wc.map some) (hnd : va_nd isC = true) (hov : ovr ws isC wc' = ws')
    (hn : As.length = n) (hroom : d + 1 ≤ R.frames ∧ 8 + (maxL + 11) + 40 * d ≤ R.locals) (hcs : cells + 0 ≤ R.cells ∧ slots + 0 ≤ R.slots) (hrest : (rest.map fun v => v.category).sum ≤ 8) (hst : ov.toList ++ rest = st') (hdg : decode cc pc = .ok (.invokestatic idx, 3))
    (kk : ∀ (H1 : Heap) (locs1 : List Loc), Hx G A ws' s.heap H1 locs1 → W p l e R s m args below meth c H1 locs1 cells slots Q (F0 m (pc + 3) ls st')) : W p l e R s m args below meth c H locs cells slots Q (F0 m pc ls (As.reverse ++ rest)) := by
  subst hst
  obtain ⟨hf, hpre⟩ := x_pre isC hK hZ hA hH hCm hnd As
  exact x_run isC hH hCm hM.1 hov hf (va_runS (As := As) (rest := rest) hC (hM.2 H.size) (cwS n hC.2.2.2.2 lk.1 rfl rfl rfl lk.2 hroom) ⟨PreX.blind, hpre⟩ rfl hn hl rfl (lv_room hrest) hdg hcs) kk
theorem x_callN {idx n : Nat} {host : String} {rest st' : List Value} (hC : CallFix p m c cc nL s args BG own) (hK : Kx G s) (hZ : Zx G A s s.heap) (hA : ∀ q, s.heap.size ≤ q → A q) (hl : ls.size = nL) (hH : Hx G A ws s.heap H locs) (hM : CT l G y bytes maxL ret d As wc ov wc') (lk : xLN own idx y host bytes maxL ret n) (isC : List Nat) (hCm : isC.map (fun i => ws[i]?) = wc.map some) (hnd : va_nd isC = true) (hov : ovr ws isC wc' = ws')
    (hn : As.length = n) (hroom : d + 1 ≤ R.frames ∧ 8 + (maxL + 11) + 40 * d ≤ R.locals) (hcs : cells + 0 ≤ R.cells ∧ slots + 0 ≤ R.slots) (hrest : (rest.map fun v => v.category).sum ≤ 8) (hst : ov.toList ++ rest = st') (hdg : decode cc pc = .ok (.invokestatic idx, 3))
    (kk : ∀ (H1 : Heap) (locs1 : List Loc), Hx G A ws' s.heap H1 locs1 → W p l e R s m args below meth c H1 locs1 cells slots Q (F0 m (pc + 3) ls st')) : W p l e R s m args below meth c H locs cells slots Q (F0 m pc ls (As.reverse ++ rest)) := by
  subst hst
  obtain ⟨hf, hpre⟩ := x_pre isC hK hZ hA hH hCm hnd As
  exact x_run isC hH hCm hM.1 hov hf (va_runSN (As := As) (rest := rest) hC (hM.2 H.size) ⟨va_cnB n hC.2.2.2.2 lk.1 rfl rfl rfl (hK.2.1 _ lk.2.1) (hC.2.2.2.2 _ lk.2.2.1) lk.2.2.2.2 hroom, hC.2.2.2.2 _ lk.2.2.2.1, trivial⟩ ⟨PreX.blind, hpre⟩ rfl hn hl rfl (lv_room hrest) hdg hcs) kk
/-! fields and rows of ints -/
theorem x_get {ref C : String} {T : u_T} {N index : Nat} {a : Addr} {rest fs : List Value} {v : Value} (hC : CallFix p m c cc nL s args BG own) (hK : Kx G s) (hH : Hx G A ws s.heap H locs) (hin : ∀ w ∈ u_ws C T N, w ∈ BG) (ci k q0 : Nat) (hc : vwCl[ci]? = some (C, T, N)) (hk : k < N) (hlink : Cond.fieldLink own index ref (T k).2.1 (T k).2.2.1 ∈ BG) (hr : (T k).1 = ref) (he : ws[q0]? = some (a, .inr (ci, fs))) (hv : fs[k]? = some v) (hdg : decode cc pc = .ok (.getfield index, 3))
    (kk : W p l e R s m args below meth c H locs cells slots Q (F0 m (pc + 3) ls (v :: rest))) : W p l e R s m args below meth c H locs cells slots Q (F0 m pc ls (.ref a :: rest)) :=
  va_get hC.1 hC.2.1 hC.2.2.2.2 hin hC.2.2.2.1 hK.1 hH.1 q0 he hc k hk (hC.2.2.2.2 _ hlink) (fun x h9 => by rw [← hr]; exact h9) hv hdg kk
theorem x_getN {ref C host : String} {T : u_T} {N index : Nat} {a : Addr} {rest fs : List Value} {v : Value} (hC : CallFix p m c cc nL s args BG own) (hK : Kx G s) (hH : Hx G A ws s.heap H locs) (hin : ∀ w ∈ u_ws C T N, w ∈ BG) (ci k q0 : Nat) (hc : vwCl[ci]? = some (C, T, N)) (hk : k < N) (hlink : Cond.fieldLinkNest own index ref (T k).2.1 (T k).2.2.1 host ∈ nestW) (hr : (T k).1 = ref) (he : ws[q0]? = some (a, .inr (ci, fs))) (hv : fs[k]? = some v) (hdg : decode cc pc = .ok (.getfield index, 3))
    (kk : W p l e R s m args below meth c H locs cells slots Q (F0 m (pc + 3) ls (v :: rest))) : W p l e R s m args below meth c H locs cells slots Q (F0 m pc ls (.ref a :: rest)) :=
  va_getN hC.1 hC.2.1 hC.2.2.2.2 hin hC.2.2.2.1 hK.1 hH.1 q0 he hc k hk (va_Nw.use (nw_ot (nw_b hlink)) (hK.2.1 _ hlink)) (fun x h9 => by rw [← hr]; exact h9) hv hdg kk
theorem x_put {ref C : String} {T : u_T} {N index : Nat} {a : Addr} {rest fs : List Value} {v : Value} {ty : FieldType} (hC : CallFix p m c cc nL s args BG own) (hK : Kx G s) (hH : Hx G A ws s.heap H locs) (hin : ∀ w ∈ u_ws C T N, w ∈ BG) (ty0 : Nat → FieldType) (hty : ∀ k, k < N → parseFieldDescriptor (T k).2.2.1 = some (ty0 k)) (hnm : ∀ a, a < N → ∀ b, b < N → a ≠ b → (T a).2.1 ≠ (T b).2.1) (ci k q0 : Nat) (hc : vwCl[ci]? = some (C, T, N)) (hk : k < N) (hlink : Cond.fieldLink own index ref (T k).2.1 (T k).2.2.1 ∈ BG) (hr : (T k).1 = ref) (hfin : (T k).2.2.2 = false) (hd : ty0 k = ty) (he : ws[q0]? = some (a, .inr (ci, fs))) (hn : narrow ty v = v) (hfit : fits ty v = true) (hl : k < fs.length) (hdg : decode cc pc = .ok (.putfield index, 3))
    (hw : ws.set q0 (a, .inr (ci, fs.set k v)) = ws') (kk : ∀ (H1 : Heap) (locs1 : List Loc), Hx G A ws' s.heap H1 locs1 → W p l e R s m args below meth c H1 locs1 cells slots Q (F0 m (pc + 3) ls rest)) : W p l e R s m args below meth c H locs cells slots Q (F0 m pc ls (v :: .ref a :: rest)) := by
  subst hw
  exact va_put hC.1 hC.2.1 hC.2.2.2.2 hin ty0 hty hnm hC.2.2.2.1 hK.1 hH.1 hH.2.1 hH.2.2 q0 he hc k hk (hC.2.2.2.2 _ hlink) (fun x h9 => by rw [← hr]; exact h9) hfin (by rw [← hd]; exact hty k hk) hn hfit hl hdg (fun H1 locs1 h1 h2 h3 => kk H1 locs1 ⟨h1, h2, h3⟩)
theorem x_putN {ref C host : String} {T : u_T} {N index : Nat} {a : Addr} {rest fs : List Value} {v : Value} {ty : FieldType} (hC : CallFix p m c cc nL s args BG own) (hK : Kx G s) (hH : Hx G A ws s.heap H locs) (hin : ∀ w ∈ u_ws C T N, w ∈ BG) (ty0 : Nat → FieldType) (hty : ∀ k, k < N → parseFieldDescriptor (T k).2.2.1 = some (ty0 k)) (hnm : ∀ a, a < N → ∀ b, b < N → a ≠ b → (T a).2.1 ≠ (T b).2.1) (ci k q0 : Nat) (hc : vwCl[ci]? = some (C, T, N)) (hk : k < N) (hlink : Cond.fieldLinkNest own index ref (T k).2.1 (T k).2.2.1 host ∈ nestW) (hr : (T k).1 = ref) (hfin : (T k).2.2.2 = false) (hd : ty0 k = ty) (he : ws[q0]? = some (a, .inr (ci, fs))) (hn : narrow ty v = v) (hfit : fits ty v = true) (hl : k < fs.length) (hdg : decode cc pc = .ok (.putfield index, 3))
    (hw : ws.set q0 (a, .inr (ci, fs.set k v)) = ws') (kk : ∀ (H1 : Heap) (locs1 : List Loc), Hx G A ws' s.heap H1 locs1 → W p l e R s m args below meth c H1 locs1 cells slots Q (F0 m (pc + 3) ls rest)) : W p l e R s m args below meth c H locs cells slots Q (F0 m pc ls (v :: .ref a :: rest)) := by
  subst hw
  exact va_putN hC.1 hC.2.1 hC.2.2.2.2 hin ty0 hty hnm hC.2.2.2.1 hK.1 hH.1 hH.2.1 hH.2.2 q0 he hc k hk (va_Nw.use (nw_ot (nw_b hlink)) (hK.2.1 _ hlink)) (fun x h9 => by rw [← hr]; exact h9) hfin (by rw [← hd]; exact hty k hk) hn hfit hl hdg (fun H1 locs1 h1 h2 h3 => kk H1 locs1 ⟨h1, h2, h3⟩)
theorem x_iald {a : Addr} {rest : List Value} {n : Nat} {f : Nat → Int32} {i : Int32} (hC : CallFix p m c cc nL s args BG own) (hK : Kx G s) (hH : Hx G A ws s.heap H locs) (q0 : Nat) (ha : ws[q0]? = some (a, .inl (G.2.1.1, n, .inl f))) (hin : vp_in i n) (hdg : decode cc pc = .ok (.iaload, 1))
    (kk : W p l e R s m args below meth c H locs cells slots Q (F0 m (pc + 1) ls (.int (f i.toNatClampNeg) :: rest))) : W p l e R s m args below meth c H locs cells slots Q (F0 m pc ls (.int i :: .ref a :: rest)) :=
  va_iald hC.1 hC.2.1 hK.1 hH.1 q0 0 ha rfl hin hdg kk
theorem x_iast {a : Addr} {rest : List Value} {n : Nat} {f : Nat → Int32} {i x : Int32} (hC : CallFix p m c cc nL s args BG own) (hK : Kx G s) (hH : Hx G A ws s.heap H locs) (q0 : Nat) (ha : ws[q0]? = some (a, .inl (G.2.1.1, n, .inl f))) (hin : vp_in i n) (hdg : decode cc pc = .ok (.iastore, 1))
    (hw : ws.set q0 (a, .inl (G.2.1.1, n, .inl (upd f i.toNatClampNeg x))) = ws') (kk : ∀ (H1 : Heap) (locs1 : List Loc), Hx G A ws' s.heap H1 locs1 → W p l e R s m args below meth c H1 locs1 cells slots Q (F0 m (pc + 1) ls rest)) : W p l e R s m args below meth c H locs cells slots Q (F0 m pc ls (.int x :: .int i :: .ref a :: rest)) := by
  subst hw
  exact va_iast hC.1 hC.2.1 hK.1 hH.1 hH.2.1 hH.2.2 q0 0 ha rfl hin hdg (fun H1 locs1 h1 h2 h3 => kk H1 locs1 ⟨h1, h2, h3⟩)
theorem x_alen {a : Addr} {rest : List Value} {n : Nat} {f : Nat → Int32} (hC : CallFix p m c cc nL s args BG own) (hK : Kx G s) (hH : Hx G A ws s.heap H locs) (q0 : Nat) (ha : ws[q0]? = some (a, .inl (G.2.1.1, n, .inl f))) {v : Int32} (hv : Int32.ofNat n = v) (hdg : decode cc pc = .ok (.arraylength, 1))
    (kk : W p l e R s m args below meth c H locs cells slots Q (F0 m (pc + 1) ls (.int v :: rest))) : W p l e R s m args below meth c H locs cells slots Q (F0 m pc ls (.ref a :: rest)) :=
  va_alen hC.1 hC.2.1 hK.1 hH.1 q0 0 ha (ty := .int) rfl hv hdg kk
/-! ends -/
theorem x_qx {v : Option Value} (hH : Hx G A ws s.heap H locs) (hv : ov = v) (hw : wc' = ws) : ∀ t : State, t.heap = H → s.WarmedH t.vm → QX G ov wc' A args s (.returned v) t := by
  subst hv; subst hw
  exact fun t ht _ => ⟨rfl, by rw [ht]; exact hH.1, hH.2.2.F ht⟩
theorem x_iret {r v : Int32} (hC : CallFix p m c cc nL s args BG own) (hr : meth.sig.returnType = some .int) (hk : meth.locks = false) (hH : Hx G A ws s.heap H locs) (hv : r = v) (hw : wc' = ws) (hdg : decode cc pc = .ok (.ireturn, 1)) : W p l e R s m args below meth c H locs 0 0 (MQ below (QX G (some (.int r)) wc' A) args s 0 0 A) (F0 m pc ls [.int v]) :=
  W.iret hC.1 hC.2.1 hr (x_qx hH (by rw [hv]) hw) hH.2.2.2.2 hdg hk
theorem x_zret {r v : Int32} {ty : FieldType} (hC : CallFix p m c cc nL s args BG own) (hr : meth.sig.returnType = some ty) (hk : meth.locks = false) (hH : Hx G A ws s.heap H locs) (hn : narrow ty (.int r) = .int r) (hv : r = v) (hw : wc' = ws) (hdg : decode cc pc = .ok (.ireturn, 1)) : W p l e R s m args below meth c H locs 0 0 (MQ below (QX G (some (.int r)) wc' A) args s 0 0 A) (F0 m pc ls [.int v]) :=
  W.zret hC.1 hC.2.1 hr (by rw [← hv]; exact hn) (x_qx hH (by rw [hv]) hw) hH.2.2.2.2 hdg hk
theorem x_lret {r v : Int64} (hC : CallFix p m c cc nL s args BG own) (hr : meth.sig.returnType = some .long) (hk : meth.locks = false) (hH : Hx G A ws s.heap H locs) (hv : r = v) (hw : wc' = ws) (hdg : decode cc pc = .ok (.lreturn, 1)) : W p l e R s m args below meth c H locs 0 0 (MQ below (QX G (some (.long r)) wc' A) args s 0 0 A) (F0 m pc ls [.long v]) :=
  W.lret hC.1 hC.2.1 hr (x_qx hH (by rw [hv]) hw) hH.2.2.2.2 hdg hk
theorem x_vret (hC : CallFix p m c cc nL s args BG own) (hr : meth.sig.returnType = none) (hk : meth.locks = false) (hH : Hx G A ws s.heap H locs) (hw : wc' = ws) (hdg : decode cc pc = .ok (.return_, 1)) : W p l e R s m args below meth c H locs 0 0 (MQ below (QX G none wc' A) args s 0 0 A) (F0 m pc ls []) :=
  W.vret hC.1 hC.2.1 hr (x_qx hH rfl hw) hH.2.2.2.2 hdg hk
theorem x_aret {r v : Addr} {ty : FieldType} (hC : CallFix p m c cc nL s args BG own) (hr : meth.sig.returnType = some ty) (hty : (∃ n, ty = .object n) ∨ ∃ t, ty = .array t) (hk : meth.locks = false) (hH : Hx G A ws s.heap H locs) (hv : r = v) (hw : wc' = ws) (hdg : decode cc pc = .ok (.areturn, 1)) : W p l e R s m args below meth c H locs 0 0 (MQ below (QX G (some (.ref r)) wc' A) args s 0 0 A) (F0 m pc ls [.ref v]) :=
  W.aret hC.1 hC.2.1 hr hty (Or.inr ⟨v, rfl⟩) (x_qx hH (by rw [hv]) hw) hH.2.2.2.2 hdg hk
/-- a loop: a measure that falls, cells and locals out of the loop's own state -/
theorem x_loop {α : Type} (μ : α → Nat) (Inv : α → Prop) (wsf : α → va_W) (lvf : α → List (Nat × Value)) {H0 : Heap} {st : List Value}
    (hstep : ∀ a, Inv a → (∀ a', Inv a' → μ a' < μ a → ∀ (H : Heap) (locs : List Loc) (ls : Array Slot), Hx G A (wsf a') H0 H locs → lv_has ls nL (lvf a') → W p l e R s m args below meth c H locs cells slots Q (F0 m pc ls st)) → ∀ (H : Heap) (locs : List Loc) (ls : Array Slot), Hx G A (wsf a) H0 H locs → lv_has ls nL (lvf a) → W p l e R s m args below meth c H locs cells slots Q (F0 m pc ls st))
    (a : α) (ha : Inv a) (hH : Hx G A (wsf a) H0 H locs) (hl : lv_has ls nL (lvf a)) : W p l e R s m args below meth c H locs cells slots Q (F0 m pc ls st) := by
  have go : ∀ (n : Nat) (a : α), μ a < n → Inv a → ∀ (H : Heap) (locs : List Loc) (ls : Array Slot), Hx G A (wsf a) H0 H locs → lv_has ls nL (lvf a) → W p l e R s m args below meth c H locs cells slots Q (F0 m pc ls st) := by
    intro n
    induction n with
    | zero => intro a h; exact absurd h (Nat.not_lt_zero _)
    | succ n ih => intro a h hI H locs ls h1 h2; exact hstep a hI (fun a' i1 i2 H locs ls g1 g2 => ih a' (Nat.lt_of_lt_of_le i2 (Nat.le_of_lt_succ h)) i1 H locs ls g1 g2) H locs ls h1 h2
  exact go (μ a + 1) a (Nat.lt_succ_self _) ha H locs ls hH hl
/-- a meeting point: what is shown for every state of a kind there serves every way to it -/
theorem x_meet {α : Type} (Inv : α → Prop) (wsf : α → va_W) (lvf : α → List (Nat × Value)) (stf : α → List Value) {H0 : Heap} {pc1 : Nat} {g : JFrame}
    (hthen : ∀ a, Inv a → ∀ (H : Heap) (locs : List Loc) (ls : Array Slot), Hx G A (wsf a) H0 H locs → lv_has ls nL (lvf a) → W p l e R s m args below meth c H locs cells slots Q (F0 m pc1 ls (stf a)))
    (hfirst : (∀ a, Inv a → ∀ (H : Heap) (locs : List Loc) (ls : Array Slot), Hx G A (wsf a) H0 H locs → lv_has ls nL (lvf a) → W p l e R s m args below meth c H locs cells slots Q (F0 m pc1 ls (stf a))) → W p l e R s m args below meth c H locs cells slots Q g) : W p l e R s m args below meth c H locs cells slots Q g := hfirst hthen
end XC
