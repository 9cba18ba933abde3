/-! THE MAKING: constructors, new cells at addresses that are variables -/
theorem wd_82 : (Cond.code objectInit ⟨#[0xb1]⟩ 1 none : Cond) ∈ BG := bg_of 82 (by decide +kernel) rfl
theorem mx_r {r : Nat} (h : r < 2 ^ 31) : mx32 (nI r) 0 = nI r := by
  unfold mx32
  rw [if_neg (nI_pos h)]
def acons (b : Nat) (ad : Nat → Nat) : Nat → Nat
  | 0 => b
  | k + 1 => ad k
theorem upk_6 (a b c d e f : Nat) : va_up (va_up (va_up (va_up (va_up (va_up (fun _ => none) 0 (some a)) 1 (some b)) 2 (some c)) 3 (some d)) 4 (some e)) 5 (some f) = (fun j => ([some a, some b, some c, some d, some e, some f] : List (Option Nat)).getD j none) := by
  funext j
  by_cases h0 : j = 0
  · subst h0; rfl
  by_cases h1 : j = 1
  · subst h1; rfl
  by_cases h2 : j = 2
  · subst h2; rfl
  by_cases h3 : j = 3
  · subst h3; rfl
  by_cases h4 : j = 4
  · subst h4; rfl
  by_cases h5 : j = 5
  · subst h5; rfl
  obtain ⟨k, rfl⟩ : ∃ k, j = k + 6 := ⟨j - 6, by omega⟩
  rw [va_up_ne _ _ h5, va_up_ne _ _ h4, va_up_ne _ _ h3, va_up_ne _ _ h2, va_up_ne _ _ h1, va_up_ne _ _ h0]
  rfl
def sC0 : Nat → Nat → Int32 := fun i => match i with
  | 10 => upd (upd (upd (upd (fun _ => 0) 0 50) 1 50) 2 50) 3 50
  | 14 => upd (upd (upd (upd (fun _ => 0) 0 50) 1 50) 2 50) 3 50
  | 18 => upd (upd (upd (upd (fun _ => 0) 0 50) 1 50) 2 50) 3 50
  | 21 => upd (fun _ => 0) 0 1
  | _ => fun _ => 0
def sM0 : Nat → Nat → Int32 := fun i => match i with
  | 2 => upd (upd (upd (upd (fun _ => 0) 6 50) 7 50) 8 50) 9 50
  | _ => fun _ => 0
abbrev rmn (d mc ms : Nat) : Room := { frames := d, cells := mc, slots := ms, locals := 40 * d }
def QN (G : GP) (wf : (Nat → Nat) → va_W) (A : Nat → Prop) : Array Value → State → Outcome → State → Prop :=
  fun _ st o t => ∃ ad, o = .returned none ∧ va_P G.1 vwCl (wf ad) t.heap ∧ va_D A (wf ad) ∧ va_F A st t
/-- a constructor's contract: mc cells of ms slots are new -/
def CN (l : Launch) (G : GP) (y : MethodName) (b : ByteArray) (n : Nat) (d mc ms : Nat) (As : List Value) (wc : va_W) (wf : (Nat → Nat) → va_W) : Prop :=
  ∀ sz : Nat, Met l y (.code y b n none :: BG) (rmn d mc ms) (PreX G As wc sz) (QN G wf (va_A wc sz)) mc ms (va_A wc sz)
theorem x_methN {l : Launch} {G : GP} {y : MethodName} {b : ByteArray} {n : Nat} {d mc ms : Nat} {As : List Value} {wc : va_W} {wf : (Nat → Nat) → va_W} (own : String) (hown : y.cls = own) (hy : plainName y.cls = true) (hyn : y.name = "<init>") (hlen : (lg_sl As).length ≤ n)
    (body : ∀ (p : Program) (e : Env) (s : State) (m : MethodId) (args : Array Value) (below : List Frame) (meth : Method) (c : Code) (A : Nat → Prop) (ls : Array Slot), CallFix p m c b n s args BG own → meth.sig.returnType = none → meth.locks = false → meth.name = "<init>" → Kx G s → Zx G A s s.heap → (∀ q, s.heap.size ≤ q → A q) → Hx G A wc s.heap s.heap [] → lv_has ls n (lv_args 0 As) →
      W p l e (rmn d mc ms) s m args below meth c s.heap [] 0 0 (MQ below (QN G wf A) args s mc ms A) (F0 m 0 ls [])) : CN l G y b n d mc ms As wc wf := by
  intro sz
  refine Met.ofW (cc := b) (maxL := n) (ret := none) hy rfl ?_
  intro p e s m args below meth c s₁ B hml hv
  obtain ⟨rfl, hsz, hP, hD0, hK, hZ⟩ := hv
  have hts := atoms_spec (ws := .code y b n none :: BG) B.pre
  have hown' : s.vm.findClass own = some m.cls := by rw [← hown]; exact findClass_of_methodNamed B.named
  have hin : meth.name = "<init>" := by rw [← hyn]; exact (name_of_methodNamed B.named B.method).1
  subst hsz
  have hD := hD0.self (sz := s.heap.size)
  rw [lg_entry_eq]
  exact body p e s m As.toArray below meth c (va_A wc s.heap.size) _ ⟨B.exec, B.bytes, hml, hown', fun w hw => hts w (List.mem_cons_of_mem _ hw)⟩ B.returns B.notSynchronized hin hK hZ (fun q h => Or.inr h) ⟨hP, hD, va_S.rf⟩ (lv_entry As hlen)
theorem hx_sub {G : GP} {A : Nat → Prop} {ws ws' : va_W} {H0 H : Heap} {locs : List Loc} (h : Hx G A ws H0 H locs) (is : List Nat) (hn : va_nd is = true) (hs : is.map (fun i => ws[i]?) = ws'.map some) : Hx G A ws' H0 H locs := by
  refine ⟨?_, h.2.1.sub is hn hs, h.2.2⟩
  intro k q hk
  have h1 : (is.map (fun i => ws[i]?))[k]? = some (some q) := by rw [hs, List.getElem?_map, hk]; rfl
  rw [List.getElem?_map] at h1
  cases hi : is[k]? with
  | none => rw [hi] at h1; cases h1
  | some i => rw [hi] at h1; exact h.1 i q (Option.some.inj h1)
section XN
variable {p : Program} {l : Launch} {e : Env} {R : Room} {s : State} {m : MethodId} {args : Array Value} {below : List Frame} {meth : Method} {c : Code} {H : Heap} {locs : List Loc} {cells slots : Nat} {Q : State → Prop}
variable {cc : ByteArray} {pc : Nat} {ls : Array Slot} {G : GP} {A : Nat → Prop} {ws wc wr ws' : va_W} {nL : Nat} {own : String} {y : MethodName} {bytes : ByteArray} {maxL : Nat} {d mc ms : Nat} {As : List Value} {wf : (Nat → Nat) → va_W}
theorem x_nret (hC : CallFix p m c cc nL s args BG own) (hr : meth.sig.returnType = none) (hk : meth.locks = false) (ad : Nat → Nat) (hH : Hx G A ws s.heap H locs) (hw : wf ad = ws) (hdg : decode cc pc = .ok (.return_, 1)) : W p l e R s m args below meth c H locs cells slots (MQ below (QN G wf A) args s cells slots A) (F0 m pc ls []) := by
  subst hw
  exact W.vret hC.1 hC.2.1 hr (fun t ht _ => ⟨ad, rfl, by rw [ht]; exact hH.1, hH.2.1, hH.2.2.F ht⟩) hH.2.2.2.2 hdg hk
theorem x_objI {idx : Nat} {a : Addr} {rest : List Value} (hC : CallFix p m c cc nL s args BG own) (hl : ls.size = nL) (hlink : Cond.methodLink own idx objectInit ∈ BG) (hf : 1 ≤ R.frames) (hlo : 20 ≤ R.locals) (hrest : (rest.map fun v => v.category).sum ≤ 8) (hdg : decode cc pc = .ok (.invokespecial idx, 3))
    (kk : W p l e R s m args below meth c H locs cells slots Q (F0 m (pc + 3) ls rest)) : W p l e R s m args below meth c H locs cells slots Q (F0 m pc ls (.ref a :: rest)) :=
  W.objInit hC.1 hC.2.1 hC.2.2.2.1 (hC.2.2.2.2 _ hlink) (hC.2.2.2.2 _ wd_81) (hC.2.2.2.2 _ wd_82) (g := F0 m pc ls (.ref a :: rest)) rfl (by show ls.size = c.maxLocals; rw [hl, hC.2.2.1]) rfl hdg hf (by have := lv_room (m := m) (pc := pc) (ls := ls) (rest := rest) hrest; show 2 * (F0 m pc ls rest).monitorRoom + _ + 12 ≤ _; omega) kk
theorem x_newI {n : Int32} {N : Nat} {H0 : Heap} {rest : List Value} (hC : CallFix p m c cc nL s args BG own) (hK : Kx G s) (hH : Hx G A ws H0 H locs) (hA : ∀ q, H0.size ≤ q → A q) (hn : ¬ n < 0) (hN : n.toNatClampNeg = N) (hby : N * 4 ≤ 536870912) (hcells : cells + 1 ≤ R.cells) (hslots : slots + N ≤ R.slots) (hdg : decode cc pc = .ok (.newarray .int, 2))
    (kk : ∀ (q : Nat) (H1 : Heap), Hx G A (ws ++ [(q, .inl (G.2.1.1, N, .inl (fun _ => 0)))]) H0 H1 locs → W p l e R s m args below meth c H1 locs (cells + 1) (slots + N) Q (F0 m (pc + 2) ls (.ref q :: rest))) : W p l e R s m args below meth c H locs cells slots Q (F0 m pc ls (.int n :: rest)) := by
  refine va_newa (atype := .int) hC.1 hC.2.1 (hC.2.2.2.2 _ wd_107) (ty := .int) rfl hK.1 hH.1 hH.2.1 hH.2.2 hA (N' := N) (a0 := (N, .inl (fun _ => 0))) (fun _ => rfl) hn hN hby hcells hslots hdg (fun q cA H1 hK1 hP1 hD1 hS1 => ?_)
  have e1 : s.vm.findClass ("[" ++ FieldType.int.toString) = some G.2.1.1 := (hK.1.2 0 (G.2.1.1, .int) rfl).2
  have e2 : s.vm.findClass ("[" ++ FieldType.int.toString) = some cA := (hK1.2 2 (cA, .int) rfl).2
  have e3 : G.2.1.1 = cA := Option.some.inj (e1.symm.trans e2)
  subst e3
  exact kk q H1 ⟨hP1, hD1, hS1⟩
theorem x_newQ {n : Int32} {N idx : Nat} {H0 : Heap} {rest : List Value} (hC : CallFix p m c cc nL s args BG own) (hK : Kx G s) (hH : Hx G A ws H0 H locs) (hA : ∀ q, H0.size ≤ q → A q) (hlink : Cond.classLink own idx "BetsOnBets$Bet" ∈ BG) (hn : ¬ n < 0) (hN : n.toNatClampNeg = N) (hby : N * 4 ≤ 536870912) (hcells : cells + 1 ≤ R.cells) (hslots : slots + N ≤ R.slots) (hdg : decode cc pc = .ok (.anewarray idx, 3))
    (kk : ∀ (q : Nat) (H1 : Heap), Hx G A (ws ++ [(q, .inl (G.2.1.2, N, .inr (.inr (.inr (.inr (fun _ => none))))))]) H0 H1 locs → W p l e R s m args below meth c H1 locs (cells + 1) (slots + N) Q (F0 m (pc + 3) ls (.ref q :: rest))) : W p l e R s m args below meth c H locs cells slots Q (F0 m pc ls (.int n :: rest)) := by
  refine va_newq hC.1 hC.2.1 hC.2.2.2.1 (hC.2.2.2.2 _ hlink) hK.2.2.2 hK.1 hH.1 hH.2.1 hH.2.2 hA hn hN hby hcells hslots hdg (fun q cA H1 hK1 hP1 hD1 hS1 => ?_)
  obtain ⟨-, -, -, -, -, e1⟩ := (hK.1.2 1 (G.2.1.2, .object "BetsOnBets$Bet") rfl).2
  obtain ⟨-, -, -, -, -, e2⟩ := (hK1.2 2 (cA, .object "BetsOnBets$Bet") rfl).2
  have e3 : G.2.1.2 = cA := Option.some.inj (e1.symm.trans e2)
  subst e3
  exact kk q H1 ⟨hP1, hD1, hS1⟩
theorem x_newO {C : String} {T : u_T} {N ci idx : Nat} {fs : List Value} {H0 : Heap} {rest : List Value} (hC : CallFix p m c cc nL s args BG own) (hK : Kx G s) (hH : Hx G A ws H0 H locs) (hA : ∀ q, H0.size ≤ q → A q) (hin : ∀ w ∈ u_ws C T N, w ∈ BG) (ty : Nat → FieldType) (hty : ∀ k, k < N → parseFieldDescriptor (T k).2.2.1 = some (ty k)) (hcl : Cond.classLink own idx C ∈ BG) (hinst : Cond.instantiable C N ∈ BG) (hini : Cond.initialized C ∈ BG) (hc : vwCl[ci]? = some (C, T, N)) (hfs : ∀ j, j < N → defaultValue (ty j) = vp_V fs j) (hcells : cells + 1 ≤ R.cells) (hslots : slots + N ≤ R.slots) (hdg : decode cc pc = .ok (.new idx, 3))
    (kk : ∀ (q : Nat) (H1 : Heap), Hx G A (ws ++ [(q, .inr (ci, fs))]) H0 H1 locs → W p l e R s m args below meth c H1 locs (cells + 1) (slots + N) Q (F0 m (pc + 3) ls (.ref q :: rest))) : W p l e R s m args below meth c H locs cells slots Q (F0 m pc ls rest) :=
  va_new hC.1 hC.2.1 hC.2.2.2.2 hin ty hty hC.2.2.2.1 (hC.2.2.2.2 _ hcl) (hC.2.2.2.2 _ hinst) (hC.2.2.2.2 _ hini) hK.1 hH.1 hH.2.1 hH.2.2 hA hc hfs hcells hslots hdg (fun q H1 h1 h2 h3 => kk q H1 ⟨h1, h2, h3⟩)
theorem x_putF {ref C : String} {T : u_T} {N index : Nat} {a : Addr} {rest fs : List Value} {v : Value} {ty : FieldType} (hC : CallFix p m c cc nL s args BG own) (hK : Kx G s) (hH : Hx G A ws s.heap H locs) (hin2 : meth.name = "<init>") (hin : ∀ w ∈ u_ws C T N, w ∈ BG) (ty0 : Nat → FieldType) (hty : ∀ k, k < N → parseFieldDescriptor (T k).2.2.1 = some (ty0 k)) (hnm : ∀ a, a < N → ∀ b, b < N → a ≠ b → (T a).2.1 ≠ (T b).2.1) (ci k q0 : Nat) (hc : vwCl[ci]? = some (C, T, N)) (hk : k < N) (hlink : Cond.fieldLink own index ref (T k).2.1 (T k).2.2.1 ∈ BG) (hr : (T k).1 = ref) (hfin : (T k).2.2.2 = true) (hdecl : (T k).1 = own) (hd : ty0 k = ty) (he : ws[q0]? = some (a, .inr (ci, fs))) (hn : narrow ty v = v) (hfit : fits ty v = true) (hl : k < fs.length) (hdg : decode cc pc = .ok (.putfield index, 3))
    (hw : ws.set q0 (a, .inr (ci, fs.set k v)) = ws') (kk : ∀ (H1 : Heap) (locs1 : List Loc), Hx G A ws' s.heap H1 locs1 → W p l e R s m args below meth c H1 locs1 cells slots Q (F0 m (pc + 3) ls rest)) : W p l e R s m args below meth c H locs cells slots Q (F0 m pc ls (v :: .ref a :: rest)) := by
  subst hw
  exact va_putF hC.1 hC.2.1 hC.2.2.2.2 hin ty0 hty hnm hC.2.2.2.1 hK.1 hH.1 hH.2.1 hH.2.2 q0 he hc k hk (hC.2.2.2.2 _ hlink) (fun x h9 => by rw [← hr]; exact h9) hfin hin2 hdecl (by rw [← hd]; exact hty k hk) hn hfit hl hdg (fun H1 locs1 h1 h2 h3 => kk H1 locs1 ⟨h1, h2, h3⟩)
theorem x_astN {j n v a : Nat} {i : Int32} {r : vw_C} {vs rest : List Value} {f : Nat → Option Nat} (hC : CallFix p m c cc nL s args BG own) (hK : Kx G s) (hH : Hx G A ws s.heap H locs) (q0 qk ci : Nat) (ha : ws[q0]? = some (a, .inl (G.2.1.2, n, .inr (.inr (.inr (.inr f)))))) (hca : Cond.castable r.1 "BetsOnBets$Bet" ∈ nestW) (hv : ws[qk]? = some (v, .inr (ci, vs))) (hc : vwCl[ci]? = some r) (hi : i = nI j) (hj : j < n) (hn : n < 1000) (hdg : decode cc pc = .ok (.aastore, 1))
    (hw : ws.set q0 (a, .inl (G.2.1.2, n, .inr (.inr (.inr (.inr (va_up f j (some v))))))) = ws') (kk : ∀ (H1 : Heap) (locs1 : List Loc), Hx G A ws' s.heap H1 locs1 → W p l e R s m args below meth c H1 locs1 cells slots Q (F0 m (pc + 1) ls rest)) : W p l e R s m args below meth c H locs cells slots Q (F0 m pc ls (.ref v :: .int i :: .ref a :: rest)) := by
  subst hi; subst hw
  refine va_astqO hC.1 hC.2.1 hK.1 hH.1 hH.2.1 hH.2.2 q0 1 qk ci ha (E := "BetsOnBets$Bet") rfl (hK.2.1 _ hca) hv hc (vp_in_nI hj (by omega)) hdg (fun H1 locs1 h1 h2 h3 => ?_)
  rw [nI_clamp (by omega)] at h1 h2
  exact kk H1 locs1 ⟨h1, h2, h3⟩
def xDI (own : String) (idx : Nat) (y : MethodName) (bytes : ByteArray) (maxL n : Nat) : Prop := GoodIn BG (.code y bytes maxL none :: BG) ∧ Cond.methodLink own idx y ∈ BG ∧ Cond.initialized y.cls ∈ BG ∧ Cond.instanceMethod y ∈ BG ∧ y.name = "<init>" ∧ (y.cls ≠ "java/lang/invoke/MethodHandle" ∧ y.cls ≠ "java/lang/invoke/VarHandle" ∧ (parseMethodDescriptor y.desc).map (fun d => d.parameters.length) = some n)
theorem xDI.of {own : String} {idx : Nat} {y : MethodName} {bytes : ByteArray} {maxL n : Nat} (h1 : Cond.methodLink own idx y ∈ BG) (h2 : Cond.initialized y.cls ∈ BG) (h3 : Cond.instanceMethod y ∈ BG) (h4 : Cond.code y bytes maxL none ∈ BG) (h5 : y.name = "<init>") (hd : y.cls ≠ "java/lang/invoke/MethodHandle" ∧ y.cls ≠ "java/lang/invoke/VarHandle" ∧ (parseMethodDescriptor y.desc).map (fun d => d.parameters.length) = some n) : xDI own idx y bytes maxL n :=
  ⟨bg_all (bg_cons h4 bg_id), h1, h2, h3, h5, hd⟩
def xNI (own : String) (idx : Nat) (y : MethodName) (host : String) (bytes : ByteArray) (maxL n : Nat) : Prop := GoodIn BG (.code y bytes maxL none :: BG) ∧ Cond.methodLinkNest own idx y host ∈ nestW ∧ Cond.initialized y.cls ∈ BG ∧ Cond.instanceMethod y ∈ BG ∧ y.name = "<init>" ∧ (y.cls ≠ "java/lang/invoke/MethodHandle" ∧ y.cls ≠ "java/lang/invoke/VarHandle" ∧ (parseMethodDescriptor y.desc).map (fun d => d.parameters.length) = some n)
theorem xNI.of {own : String} {idx : Nat} {y : MethodName} {host : String} {bytes : ByteArray} {maxL n : Nat} (h1 : Cond.methodLinkNest own idx y host ∈ nestW) (h2 : Cond.initialized y.cls ∈ BG) (h3 : Cond.instanceMethod y ∈ BG) (h4 : Cond.code y bytes maxL none ∈ BG) (h5 : y.name = "<init>") (hd : y.cls ≠ "java/lang/invoke/MethodHandle" ∧ y.cls ≠ "java/lang/invoke/VarHandle" ∧ (parseMethodDescriptor y.desc).map (fun d => d.parameters.length) = some n) : xNI own idx y host bytes maxL n :=
  ⟨bg_all (bg_cons h4 bg_id), h1, h2, h3, h5, hd⟩
theorem x_runN {H0 : Heap} {g0 rest : List Value} {a : Array Value} (hH : Hx G A ws H0 H locs) (isC isR : List Nat) (hCm : isC.map (fun i => ws[i]?) = wc.map some) (hRm : isR.map (fun i => ws[i]?) = wr.map some) (hndR : va_nd isR = true) (hdis : ∀ i ∈ isR, i ∉ isC) (hf : ∀ q, va_A wc H.size q → A q)
    (hr : va_Run p l e R s m args below meth c H locs cells slots mc ms (F0 m pc ls g0) rest (QN G wf (va_A wc H.size) a) (va_A wc H.size))
    (kk : ∀ (ad : Nat → Nat) (H1 : Heap) (locs1 : List Loc), Hx G A (wr ++ wf ad) H0 H1 locs1 → W p l e R s m args below meth c H1 locs1 (cells + mc) (slots + ms) Q (F0 m (pc + 3) ls rest)) : W p l e R s m args below meth c H locs cells slots Q (F0 m pc ls g0) := by
  intro T hT X
  obtain ⟨v, st₀, t, T', L, h0, X', hL, e1, e2, ⟨ad, hv, hp, hd, hz, hk⟩, st⟩ := hr T hT X
  have hv2 : v = none := by injection hv
  subst hv2
  rw [h0] at hz hk
  have hS := hH.2.2
  obtain ⟨hP2, hD2⟩ := va_join (H1 := T'.heap) hH.1 hH.2.1 isC isR hCm hRm hndR hdis (fun q h1 h2 => by rw [e1]; exact hk q h1 h2) hf (by rw [e1]; exact hp) hd
  obtain ⟨t2, a1, b1⟩ := kk ad T'.heap (locs ++ L) ⟨hP2, hD2, ⟨Nat.le_trans hS.1 (by rw [e1]; exact hz), fun q h1 h2 => by rw [e1, hk q (Nat.lt_of_lt_of_le h1 hS.1) (fun z => h2 (hf q z))]; exact hS.2.1 q h1 h2, fun q hq => by
      rcases List.mem_append.mp hq with h | h
      · exact hS.2.2 q h
      · exact hf _ (hL q h)⟩⟩ T' rfl X'
  exact ⟨t2, st t2 a1, b1⟩
theorem x_initD {b : Addr} {idx n : Nat} {rest : List Value} (hC : CallFix p m c cc nL s args BG own) (hK : Kx G s) (hZ : Zx G A s s.heap) (hA : ∀ q, s.heap.size ≤ q → A q) (hl : ls.size = nL) (hH : Hx G A ws s.heap H locs) (hM : CN l G y bytes maxL d mc ms (.ref b :: As) wc wf) (lk : xDI own idx y bytes maxL n) (isC isR : List Nat) (hCm : isC.map (fun i => ws[i]?) = wc.map some) (hnd : va_nd isC = true) (hRm : isR.map (fun i => ws[i]?) = wr.map some) (hndR : va_nd isR = true) (hdis : ∀ i ∈ isR, i ∉ isC)
    (hn : As.length = n) (hroom : d + 1 ≤ R.frames ∧ 8 + (maxL + 11) + 40 * d ≤ R.locals) (hcs : cells + mc ≤ R.cells ∧ slots + ms ≤ R.slots) (hrest : (rest.map fun v => v.category).sum ≤ 8) (hdg : decode cc pc = .ok (.invokespecial idx, 3))
    (kk : ∀ (ad : Nat → Nat) (H1 : Heap) (locs1 : List Loc), Hx G A (wr ++ wf ad) s.heap H1 locs1 → W p l e R s m args below meth c H1 locs1 (cells + mc) (slots + ms) Q (F0 m (pc + 3) ls rest)) : W p l e R s m args below meth c H locs cells slots Q (F0 m pc ls (As.reverse ++ .ref b :: rest)) := by
  obtain ⟨hf, hpre⟩ := x_pre isC hK hZ hA hH hCm hnd (.ref b :: As)
  exact x_runN hH isC isR hCm hRm hndR hdis hf (va_runI (As := As) (rest := rest) hC (hM H.size) (cwI n hC.2.2.2.2 lk.1 rfl rfl rfl (hC.2.2.2.2 _ lk.2.2.1) (hC.2.2.2.2 _ lk.2.1) (hC.2.2.2.2 _ lk.2.2.2.1) lk.2.2.2.2.1 lk.2.2.2.2.2 hroom) ⟨PreX.blind, hpre⟩ rfl hn hl rfl (lv_room hrest) hdg hcs) kk
theorem x_initN {b : Addr} {idx n : Nat} {host : String} {rest : List Value} (hC : CallFix p m c cc nL s args BG own) (hK : Kx G s) (hZ : Zx G A s s.heap) (hA : ∀ q, s.heap.size ≤ q → A q) (hl : ls.size = nL) (hH : Hx G A ws s.heap H locs) (hM : CN l G y bytes maxL d mc ms (.ref b :: As) wc wf) (lk : xNI own idx y host bytes maxL n) (isC isR : List Nat) (hCm : isC.map (fun i => ws[i]?) = wc.map some) (hnd : va_nd isC = true) (hRm : isR.map (fun i => ws[i]?) = wr.map some) (hndR : va_nd isR = true) (hdis : ∀ i ∈ isR, i ∉ isC)
    (hn : As.length = n) (hroom : d + 1 ≤ R.frames ∧ 8 + (maxL + 11) + 40 * d ≤ R.locals) (hcs : cells + mc ≤ R.cells ∧ slots + ms ≤ R.slots) (hrest : (rest.map fun v => v.category).sum ≤ 8) (hdg : decode cc pc = .ok (.invokespecial idx, 3))
    (kk : ∀ (ad : Nat → Nat) (H1 : Heap) (locs1 : List Loc), Hx G A (wr ++ wf ad) s.heap H1 locs1 → W p l e R s m args below meth c H1 locs1 (cells + mc) (slots + ms) Q (F0 m (pc + 3) ls rest)) : W p l e R s m args below meth c H locs cells slots Q (F0 m pc ls (As.reverse ++ .ref b :: rest)) := by
  obtain ⟨hf, hpre⟩ := x_pre isC hK hZ hA hH hCm hnd (.ref b :: As)
  exact x_runN hH isC isR hCm hRm hndR hdis hf (va_runIN (As := As) (rest := rest) hC (hM H.size) ⟨va_cnB n hC.2.2.2.2 lk.1 rfl rfl rfl (hK.2.1 _ lk.2.1) (hC.2.2.2.2 _ lk.2.2.1) lk.2.2.2.2.2 hroom, lk.2.2.2.2.1, hC.2.2.2.2 _ lk.2.2.2.1⟩ ⟨PreX.blind, hpre⟩ rfl hn hl rfl (lv_room hrest) hdg hcs) kk
end XN

theorem xl_X11_9 : xNI "BetsOnBets" 9 yX8_init "BetsOnBets" cX8_init 1 0 := xNI.of (List.mem_of_getElem? (i := 0) rfl) wd_56 wd_86 wd_87 rfl (by decide +kernel)
theorem xl_X11_18 : xDI "BetsOnBets" 18 yX9_init cX9_init 2 1 := xDI.of wd_125 wd_57 wd_92 wd_93 rfl (by decide +kernel)
theorem xl_X11_27 : xDI "BetsOnBets" 27 yX2_init cX2_init 2 0 := xDI.of wd_128 wd_59 wd_129 wd_130 rfl (by decide +kernel)
theorem xl_X11_40 : xDI "BetsOnBets" 40 yX10_init cX10_init 1 0 := xDI.of wd_156 wd_60 wd_157 wd_158 rfl (by decide +kernel)
theorem xl_X0_1 : xNI "BetsOnBets$Against" 1 yX7_init "BetsOnBets" cX7_init 1 0 := xNI.of (List.mem_of_getElem? (i := 13) rfl) wd_62 wd_165 wd_166 rfl (by decide +kernel)
theorem xl_X3_1 : xNI "BetsOnBets$Both" 1 yX7_init "BetsOnBets" cX7_init 1 0 := xNI.of (List.mem_of_getElem? (i := 15) rfl) wd_62 wd_165 wd_166 rfl (by decide +kernel)
theorem xl_X4_1 : xNI "BetsOnBets$Either" 1 yX1_init "BetsOnBets" cX1_init 1 0 := xNI.of (List.mem_of_getElem? (i := 17) rfl) wd_61 wd_168 wd_169 rfl (by decide +kernel)
theorem xl_X5_1 : xNI "BetsOnBets$Neither" 1 yX4_init "BetsOnBets" cX4_init 1 0 := xNI.of (List.mem_of_getElem? (i := 21) rfl) wd_65 wd_189 wd_190 rfl (by decide +kernel)
theorem xl_X6_1 : xNI "BetsOnBets$One" 1 yX4_init "BetsOnBets" cX4_init 1 0 := xNI.of (List.mem_of_getElem? (i := 19) rfl) wd_65 wd_189 wd_190 rfl (by decide +kernel)
theorem xl_X7_1 : xNI "BetsOnBets$Plain" 1 yX1_init "BetsOnBets" cX1_init 1 0 := xNI.of (List.mem_of_getElem? (i := 11) rfl) wd_61 wd_168 wd_169 rfl (by decide +kernel)
theorem xl_X8_11 : xDI "BetsOnBets$Reader" 11 yX9_init cX9_init 2 1 := xDI.of wd_91 wd_57 wd_92 wd_93 rfl (by decide +kernel)
theorem xl_X10_13 : xNI "BetsOnBets$Ways" 13 yX7_init "BetsOnBets" cX7_init 1 0 := xNI.of (List.mem_of_getElem? (i := 10) rfl) wd_62 wd_165 wd_166 rfl (by decide +kernel)
theorem xl_X10_16 : xNI "BetsOnBets$Ways" 16 yX0_init "BetsOnBets" cX0_init 1 0 := xNI.of (List.mem_of_getElem? (i := 12) rfl) wd_63 wd_175 wd_176 rfl (by decide +kernel)
theorem xl_X10_19 : xNI "BetsOnBets$Ways" 19 yX3_init "BetsOnBets" cX3_init 1 0 := xNI.of (List.mem_of_getElem? (i := 14) rfl) wd_64 wd_182 wd_183 rfl (by decide +kernel)
theorem xl_X10_22 : xNI "BetsOnBets$Ways" 22 yX4_init "BetsOnBets" cX4_init 1 0 := xNI.of (List.mem_of_getElem? (i := 16) rfl) wd_65 wd_189 wd_190 rfl (by decide +kernel)
theorem xl_X10_25 : xNI "BetsOnBets$Ways" 25 yX6_init "BetsOnBets" cX6_init 1 0 := xNI.of (List.mem_of_getElem? (i := 18) rfl) wd_66 wd_196 wd_197 rfl (by decide +kernel)
theorem xl_X10_28 : xNI "BetsOnBets$Ways" 28 yX5_init "BetsOnBets" cX5_init 1 0 := xNI.of (List.mem_of_getElem? (i := 20) rfl) wd_67 wd_203 wd_204 rfl (by decide +kernel)
theorem xl_L_9 : xDI "BetsOnBetsLaw" 9 yX11_init cX11_init 1 0 := xDI.of wd_77 wd_55 wd_78 wd_79 rfl (by decide +kernel)
theorem xl_L_12 : xDI "BetsOnBetsLaw" 12 yX12_init cX12_init 2 0 := xDI.of wd_761 wd_68 wd_762 wd_763 rfl (by decide +kernel)
set_option maxHeartbeats 4000000 in
set_option maxRecDepth 100000 in
theorem n_X1 (l : Launch) (G : GP) (b : Nat) : CN l G yX1_init cX1_init 1 1 0 0 [.ref b] [] (fun _ => []) := by
  refine x_methN "BetsOnBets$Bet" rfl (by decide +kernel) rfl (Nat.le_of_ble_eq_true rfl) ?_
  intro pP eE sS mM args below meth cC A ls hC hr hkL hin hK hZ hA hH hl
  have hx := hC.1
  have hb := hC.2.1
  have hl : lv_has ls 1 [(0, .ref b)] := hl
  refine lv_aload_n hx hb dX1_init_0 rfl (lv_at hl 0 rfl) ?_
  refine x_objI (rest := []) hC hl.1 wd_170 (Nat.le_of_ble_eq_true rfl) (Nat.le_of_ble_eq_true rfl) (Nat.le_of_ble_eq_true rfl) dX1_init_1 ?_
  exact x_nret hC hr hkL (fun k => ([] : List Nat).getD k 0) hH rfl dX1_init_4
set_option maxHeartbeats 4000000 in
set_option maxRecDepth 100000 in
theorem n_X7 (l : Launch) (G : GP) (b : Nat) : CN l G yX7_init cX7_init 1 2 0 0 [.ref b] [] (fun _ => []) := by
  refine x_methN "BetsOnBets$Plain" rfl (by decide +kernel) rfl (Nat.le_of_ble_eq_true rfl) ?_
  intro pP eE sS mM args below meth cC A ls hC hr hkL hin hK hZ hA hH hl
  have hx := hC.1
  have hb := hC.2.1
  have hl : lv_has ls 1 [(0, .ref b)] := hl
  refine lv_aload_n hx hb dX7_init_0 rfl (lv_at hl 0 rfl) ?_
  refine x_initN (As := []) (rest := []) (wr := []) hC hK hZ hA hl.1 hH (n_X1 l G b) xl_X7_1 [] [] rfl (by decide) rfl (by decide) (by decide) rfl ⟨(Nat.le_of_ble_eq_true rfl), (Nat.le_of_ble_eq_true rfl)⟩ ⟨(Nat.le_of_ble_eq_true rfl), (Nat.le_of_ble_eq_true rfl)⟩ (Nat.le_of_ble_eq_true rfl) dX7_init_1 (fun a1 H locs hH => ?_)
  replace hH : Hx G A [] sS.heap H _ := hH
  refine W.widen (k := 0) (n := 0) (Nat.le_of_ble_eq_true rfl) (Nat.le_of_ble_eq_true rfl) ?_
  exact x_nret hC hr hkL (fun k => ([] : List Nat).getD k 0) hH rfl dX7_init_4
set_option maxHeartbeats 4000000 in
set_option maxRecDepth 100000 in
theorem n_X0 (l : Launch) (G : GP) (b : Nat) : CN l G yX0_init cX0_init 1 3 0 0 [.ref b] [] (fun _ => []) := by
  refine x_methN "BetsOnBets$Against" rfl (by decide +kernel) rfl (Nat.le_of_ble_eq_true rfl) ?_
  intro pP eE sS mM args below meth cC A ls hC hr hkL hin hK hZ hA hH hl
  have hx := hC.1
  have hb := hC.2.1
  have hl : lv_has ls 1 [(0, .ref b)] := hl
  refine lv_aload_n hx hb dX0_init_0 rfl (lv_at hl 0 rfl) ?_
  refine x_initN (As := []) (rest := []) (wr := []) hC hK hZ hA hl.1 hH (n_X7 l G b) xl_X0_1 [] [] rfl (by decide) rfl (by decide) (by decide) rfl ⟨(Nat.le_of_ble_eq_true rfl), (Nat.le_of_ble_eq_true rfl)⟩ ⟨(Nat.le_of_ble_eq_true rfl), (Nat.le_of_ble_eq_true rfl)⟩ (Nat.le_of_ble_eq_true rfl) dX0_init_1 (fun a1 H locs hH => ?_)
  replace hH : Hx G A [] sS.heap H _ := hH
  refine W.widen (k := 0) (n := 0) (Nat.le_of_ble_eq_true rfl) (Nat.le_of_ble_eq_true rfl) ?_
  exact x_nret hC hr hkL (fun k => ([] : List Nat).getD k 0) hH rfl dX0_init_4
set_option maxHeartbeats 4000000 in
set_option maxRecDepth 100000 in
theorem n_X3 (l : Launch) (G : GP) (b : Nat) : CN l G yX3_init cX3_init 1 3 0 0 [.ref b] [] (fun _ => []) := by
  refine x_methN "BetsOnBets$Both" rfl (by decide +kernel) rfl (Nat.le_of_ble_eq_true rfl) ?_
  intro pP eE sS mM args below meth cC A ls hC hr hkL hin hK hZ hA hH hl
  have hx := hC.1
  have hb := hC.2.1
  have hl : lv_has ls 1 [(0, .ref b)] := hl
  refine lv_aload_n hx hb dX3_init_0 rfl (lv_at hl 0 rfl) ?_
  refine x_initN (As := []) (rest := []) (wr := []) hC hK hZ hA hl.1 hH (n_X7 l G b) xl_X3_1 [] [] rfl (by decide) rfl (by decide) (by decide) rfl ⟨(Nat.le_of_ble_eq_true rfl), (Nat.le_of_ble_eq_true rfl)⟩ ⟨(Nat.le_of_ble_eq_true rfl), (Nat.le_of_ble_eq_true rfl)⟩ (Nat.le_of_ble_eq_true rfl) dX3_init_1 (fun a1 H locs hH => ?_)
  replace hH : Hx G A [] sS.heap H _ := hH
  refine W.widen (k := 0) (n := 0) (Nat.le_of_ble_eq_true rfl) (Nat.le_of_ble_eq_true rfl) ?_
  exact x_nret hC hr hkL (fun k => ([] : List Nat).getD k 0) hH rfl dX3_init_4
set_option maxHeartbeats 4000000 in
set_option maxRecDepth 100000 in
theorem n_X4 (l : Launch) (G : GP) (b : Nat) : CN l G yX4_init cX4_init 1 2 0 0 [.ref b] [] (fun _ => []) := by
  refine x_methN "BetsOnBets$Either" rfl (by decide +kernel) rfl (Nat.le_of_ble_eq_true rfl) ?_
  intro pP eE sS mM args below meth cC A ls hC hr hkL hin hK hZ hA hH hl
  have hx := hC.1
  have hb := hC.2.1
  have hl : lv_has ls 1 [(0, .ref b)] := hl
  refine lv_aload_n hx hb dX4_init_0 rfl (lv_at hl 0 rfl) ?_
  refine x_initN (As := []) (rest := []) (wr := []) hC hK hZ hA hl.1 hH (n_X1 l G b) xl_X4_1 [] [] rfl (by decide) rfl (by decide) (by decide) rfl ⟨(Nat.le_of_ble_eq_true rfl), (Nat.le_of_ble_eq_true rfl)⟩ ⟨(Nat.le_of_ble_eq_true rfl), (Nat.le_of_ble_eq_true rfl)⟩ (Nat.le_of_ble_eq_true rfl) dX4_init_1 (fun a1 H locs hH => ?_)
  replace hH : Hx G A [] sS.heap H _ := hH
  refine W.widen (k := 0) (n := 0) (Nat.le_of_ble_eq_true rfl) (Nat.le_of_ble_eq_true rfl) ?_
  exact x_nret hC hr hkL (fun k => ([] : List Nat).getD k 0) hH rfl dX4_init_4
set_option maxHeartbeats 4000000 in
set_option maxRecDepth 100000 in
theorem n_X6 (l : Launch) (G : GP) (b : Nat) : CN l G yX6_init cX6_init 1 3 0 0 [.ref b] [] (fun _ => []) := by
  refine x_methN "BetsOnBets$One" rfl (by decide +kernel) rfl (Nat.le_of_ble_eq_true rfl) ?_
  intro pP eE sS mM args below meth cC A ls hC hr hkL hin hK hZ hA hH hl
  have hx := hC.1
  have hb := hC.2.1
  have hl : lv_has ls 1 [(0, .ref b)] := hl
  refine lv_aload_n hx hb dX6_init_0 rfl (lv_at hl 0 rfl) ?_
  refine x_initN (As := []) (rest := []) (wr := []) hC hK hZ hA hl.1 hH (n_X4 l G b) xl_X6_1 [] [] rfl (by decide) rfl (by decide) (by decide) rfl ⟨(Nat.le_of_ble_eq_true rfl), (Nat.le_of_ble_eq_true rfl)⟩ ⟨(Nat.le_of_ble_eq_true rfl), (Nat.le_of_ble_eq_true rfl)⟩ (Nat.le_of_ble_eq_true rfl) dX6_init_1 (fun a1 H locs hH => ?_)
  replace hH : Hx G A [] sS.heap H _ := hH
  refine W.widen (k := 0) (n := 0) (Nat.le_of_ble_eq_true rfl) (Nat.le_of_ble_eq_true rfl) ?_
  exact x_nret hC hr hkL (fun k => ([] : List Nat).getD k 0) hH rfl dX6_init_4
set_option maxHeartbeats 4000000 in
set_option maxRecDepth 100000 in
theorem n_X5 (l : Launch) (G : GP) (b : Nat) : CN l G yX5_init cX5_init 1 3 0 0 [.ref b] [] (fun _ => []) := by
  refine x_methN "BetsOnBets$Neither" rfl (by decide +kernel) rfl (Nat.le_of_ble_eq_true rfl) ?_
  intro pP eE sS mM args below meth cC A ls hC hr hkL hin hK hZ hA hH hl
  have hx := hC.1
  have hb := hC.2.1
  have hl : lv_has ls 1 [(0, .ref b)] := hl
  refine lv_aload_n hx hb dX5_init_0 rfl (lv_at hl 0 rfl) ?_
  refine x_initN (As := []) (rest := []) (wr := []) hC hK hZ hA hl.1 hH (n_X4 l G b) xl_X5_1 [] [] rfl (by decide) rfl (by decide) (by decide) rfl ⟨(Nat.le_of_ble_eq_true rfl), (Nat.le_of_ble_eq_true rfl)⟩ ⟨(Nat.le_of_ble_eq_true rfl), (Nat.le_of_ble_eq_true rfl)⟩ (Nat.le_of_ble_eq_true rfl) dX5_init_1 (fun a1 H locs hH => ?_)
  replace hH : Hx G A [] sS.heap H _ := hH
  refine W.widen (k := 0) (n := 0) (Nat.le_of_ble_eq_true rfl) (Nat.le_of_ble_eq_true rfl) ?_
  exact x_nret hC hr hkL (fun k => ([] : List Nat).getD k 0) hH rfl dX5_init_4
set_option maxHeartbeats 4000000 in
set_option maxRecDepth 100000 in
theorem n_X9 (l : Launch) (G : GP) (b : Nat) (v : Int32) (r : Nat) (hr90 : r ≤ 90) (hv : v = nI r) : CN l G yX9_init cX9_init 2 1 1 r [.ref b, .int v] [(b, .inr (8, [.null, .int 0]))] (fun ad => [(b, .inr (8, [.ref (ad 0), .int 0])), (ad 0, .inl (G.2.1.1, r, .inl (fun _ => 0)))]) := by
  refine x_methN "BetsOnBets$Row" rfl (by decide +kernel) rfl (Nat.le_of_ble_eq_true rfl) ?_
  intro pP eE sS mM args below meth cC A ls hC hr hkL hin hK hZ hA hH hl
  have hx := hC.1
  have hb := hC.2.1
  have hl : lv_has ls 2 [(0, .ref b), (1, .int v)] := hl
  refine lv_aload_n hx hb dX9_init_0 rfl (lv_at hl 0 rfl) ?_
  refine x_objI (rest := []) hC hl.1 wd_94 (Nat.le_of_ble_eq_true rfl) (Nat.le_of_ble_eq_true rfl) (Nat.le_of_ble_eq_true rfl) dX9_init_1 ?_
  refine lv_aload_n hx hb dX9_init_4 rfl (lv_at hl 0 rfl) ?_
  refine lv_iconst (v := 0) hx hb dX9_init_5 (by decide) ?_
  refine pf_X9_7 (ws' := [(b, .inr (8, [.null, .int 0]))]) hC hK hH 0 rfl rfl rfl (Nat.le_of_ble_eq_true rfl) dX9_init_6 rfl (fun H locs hH => ?_)
  refine lv_aload_n hx hb dX9_init_9 rfl (lv_at hl 0 rfl) ?_
  refine lv_iload_n hx hb dX9_init_10 rfl (lv_at hl 1 rfl) ?_
  refine lv_iconst (v := 0) hx hb dX9_init_11 (by decide) ?_
  refine x_max (a := v) (b := 0) (rest := [.ref b]) hC hl.1 wd_95 ⟨(Nat.le_of_ble_eq_true rfl), (Nat.le_of_ble_eq_true rfl)⟩ ⟨Nat.zero_le _, Nat.zero_le _⟩ (Nat.le_of_ble_eq_true rfl) dX9_init_12 ?_
  refine x_topE (y := (nI r)) (by rw [hv]; exact mx_r (by omega)) ?_
  refine x_newI (n := (nI r)) (N := r) hC hK hH hA (nI_pos (by omega)) (nI_clamp (by omega)) (by show r * 4 ≤ _; omega) (Nat.le_of_ble_eq_true rfl) (by show 0 + r ≤ r; omega) dX9_init_15 (fun q1 H hH => ?_)
  replace hH : Hx G A [(b, .inr (8, [.null, .int 0])), (q1, .inl (G.2.1.1, r, .inl (fun _ => 0)))] sS.heap H _ := hH
  refine W.widen (k := 1) (n := r) (Nat.le_of_ble_eq_true rfl) (by omega) ?_
  refine x_putF (ws' := [(b, .inr (8, [.ref q1, .int 0])), (q1, .inl (G.2.1.1, r, .inl (fun _ => 0)))]) (ref := RX9) (T := TX9) (N := 2) hC hK hH hin iB_X9 tyX9 tyX9_ok nmX9 8 0 0 rfl (by decide) wd_98 rfl rfl rfl rfl rfl rfl rfl (Nat.le_of_ble_eq_true rfl) dX9_init_17 rfl (fun H locs hH => ?_)
  exact x_nret hC hr hkL (fun k => ([q1] : List Nat).getD k 0) hH rfl dX9_init_20
set_option maxHeartbeats 4000000 in
set_option maxRecDepth 100000 in
theorem n_X8 (l : Launch) (G : GP) (b : Nat) : CN l G yX8_init cX8_init 1 2 3 89 [.ref b] [(b, .inr (7, [.null, .null, .int 0, .int 0]))] (fun ad => [(b, .inr (7, [.ref (ad 0), .ref (ad 2), .int 0, .int 0])), (ad 0, .inr (8, [.ref (ad 1), .int 0])), (ad 1, .inl (G.2.1.1, 80, .inl (fun _ => 0))), (ad 2, .inl (G.2.1.1, 7, .inl (fun _ => 0)))]) := by
  refine x_methN "BetsOnBets$Reader" rfl (by decide +kernel) rfl (Nat.le_of_ble_eq_true rfl) ?_
  intro pP eE sS mM args below meth cC A ls hC hr hkL hin hK hZ hA hH hl
  have hx := hC.1
  have hb := hC.2.1
  have hl : lv_has ls 1 [(0, .ref b)] := hl
  refine lv_aload_n hx hb dX8_init_0 rfl (lv_at hl 0 rfl) ?_
  refine x_objI (rest := []) hC hl.1 wd_88 (Nat.le_of_ble_eq_true rfl) (Nat.le_of_ble_eq_true rfl) (Nat.le_of_ble_eq_true rfl) dX8_init_1 ?_
  refine lv_aload_n hx hb dX8_init_4 rfl (lv_at hl 0 rfl) ?_
  refine x_newO (C := RX9) (T := TX9) (N := 2) (fs := [.null, .int 0]) hC hK hH hA iB_X9 tyX9 tyX9_ok wd_89 wd_90 wd_57 (ci := 8) rfl (fun j hj => by rcases (show j = 0 ∨ j = 1 by omega) with rfl | rfl <;> rfl) (Nat.le_of_ble_eq_true rfl) (Nat.le_of_ble_eq_true rfl) dX8_init_5 (fun q1 H hH => ?_)
  replace hH : Hx G A [(b, .inr (7, [.null, .null, .int 0, .int 0])), (q1, .inr (8, [.null, .int 0]))] sS.heap H _ := hH
  refine W.widen (k := 1) (n := 2) (Nat.le_of_ble_eq_true rfl) (Nat.le_of_ble_eq_true rfl) ?_
  refine lv_dup hx hb dX8_init_8 rfl ?_
  refine lv_bipush (v := 80) hx hb dX8_init_9 (by decide) ?_
  refine x_initD (As := [.int 80]) (rest := [.ref q1, .ref b]) (wr := [(b, .inr (7, [.null, .null, .int 0, .int 0]))]) hC hK hZ hA hl.1 hH (n_X9 l G q1 80 80 (Nat.le_of_ble_eq_true rfl) rfl) xl_X8_11 [1] [0] rfl (by decide) rfl (by decide) (by decide) rfl ⟨(Nat.le_of_ble_eq_true rfl), (Nat.le_of_ble_eq_true rfl)⟩ ⟨(Nat.le_of_ble_eq_true rfl), (Nat.le_of_ble_eq_true rfl)⟩ (Nat.le_of_ble_eq_true rfl) dX8_init_11 (fun a2 H locs hH => ?_)
  replace hH : Hx G A [(b, .inr (7, [.null, .null, .int 0, .int 0])), (q1, .inr (8, [.ref (a2 0), .int 0])), ((a2 0), .inl (G.2.1.1, 80, .inl (fun _ => 0)))] sS.heap H _ := hH
  refine W.widen (k := 2) (n := 82) (Nat.le_of_ble_eq_true rfl) (Nat.le_of_ble_eq_true rfl) ?_
  refine x_putF (ws' := [(b, .inr (7, [.ref q1, .null, .int 0, .int 0])), (q1, .inr (8, [.ref (a2 0), .int 0])), ((a2 0), .inl (G.2.1.1, 80, .inl (fun _ => 0)))]) (ref := RX8) (T := TX8) (N := 4) hC hK hH hin iB_X8 tyX8 tyX8_ok nmX8 7 0 0 rfl (by decide) wd_108 rfl rfl rfl rfl rfl rfl rfl (Nat.le_of_ble_eq_true rfl) dX8_init_14 rfl (fun H locs hH => ?_)
  refine lv_aload_n hx hb dX8_init_17 rfl (lv_at hl 0 rfl) ?_
  refine lv_bipush (v := 7) hx hb dX8_init_18 (by decide) ?_
  refine x_newI (n := 7) (N := 7) hC hK hH hA (by decide) (by decide) (by decide) (Nat.le_of_ble_eq_true rfl) (Nat.le_of_ble_eq_true rfl) dX8_init_20 (fun q3 H hH => ?_)
  replace hH : Hx G A [(b, .inr (7, [.ref q1, .null, .int 0, .int 0])), (q1, .inr (8, [.ref (a2 0), .int 0])), ((a2 0), .inl (G.2.1.1, 80, .inl (fun _ => 0))), (q3, .inl (G.2.1.1, 7, .inl (fun _ => 0)))] sS.heap H _ := hH
  refine W.widen (k := 3) (n := 89) (Nat.le_of_ble_eq_true rfl) (Nat.le_of_ble_eq_true rfl) ?_
  refine x_putF (ws' := [(b, .inr (7, [.ref q1, .ref q3, .int 0, .int 0])), (q1, .inr (8, [.ref (a2 0), .int 0])), ((a2 0), .inl (G.2.1.1, 80, .inl (fun _ => 0))), (q3, .inl (G.2.1.1, 7, .inl (fun _ => 0)))]) (ref := RX8) (T := TX8) (N := 4) hC hK hH hin iB_X8 tyX8 tyX8_ok nmX8 7 1 0 rfl (by decide) wd_110 rfl rfl rfl rfl rfl rfl rfl (Nat.le_of_ble_eq_true rfl) dX8_init_22 rfl (fun H locs hH => ?_)
  refine lv_aload_n hx hb dX8_init_25 rfl (lv_at hl 0 rfl) ?_
  refine lv_iconst (v := 0) hx hb dX8_init_26 (by decide) ?_
  refine pf_X8_24 (ws' := [(b, .inr (7, [.ref q1, .ref q3, .int 0, .int 0])), (q1, .inr (8, [.ref (a2 0), .int 0])), ((a2 0), .inl (G.2.1.1, 80, .inl (fun _ => 0))), (q3, .inl (G.2.1.1, 7, .inl (fun _ => 0)))]) hC hK hH 0 rfl rfl rfl (Nat.le_of_ble_eq_true rfl) dX8_init_27 rfl (fun H locs hH => ?_)
  refine lv_aload_n hx hb dX8_init_30 rfl (lv_at hl 0 rfl) ?_
  refine lv_iconst (v := 0) hx hb dX8_init_31 (by decide) ?_
  refine pf_X8_28 (ws' := [(b, .inr (7, [.ref q1, .ref q3, .int 0, .int 0])), (q1, .inr (8, [.ref (a2 0), .int 0])), ((a2 0), .inl (G.2.1.1, 80, .inl (fun _ => 0))), (q3, .inl (G.2.1.1, 7, .inl (fun _ => 0)))]) hC hK hH 0 rfl rfl rfl (Nat.le_of_ble_eq_true rfl) dX8_init_32 rfl (fun H locs hH => ?_)
  exact x_nret hC hr hkL (fun k => ([q1, (a2 0), q3] : List Nat).getD k 0) hH rfl dX8_init_35
set_option maxHeartbeats 4000000 in
set_option maxRecDepth 100000 in
theorem n_X2 (l : Launch) (G : GP) (b : Nat) : CN l G yX2_init cX2_init 2 1 3 50 [.ref b] [(b, .inr (1, [.null, .null, .null, .int 0, .int 0]))] (fun ad => [(b, .inr (1, [.ref (ad 0), .ref (ad 1), .ref (ad 2), .int 0, .int 0])), (ad 0, .inl (G.2.1.1, 4, .inl (fun _ => 0))), (ad 1, .inl (G.2.1.1, 42, .inl (fun _ => 0))), (ad 2, .inl (G.2.1.1, 4, .inl (upd (upd (upd (upd (fun _ => 0) 0 50) 1 50) 2 50) 3 50)))]) := by
  refine x_methN "BetsOnBets$Book" rfl (by decide +kernel) rfl (Nat.le_of_ble_eq_true rfl) ?_
  intro pP eE sS mM args below meth cC A ls hC hr hkL hin hK hZ hA hH hl
  have hx := hC.1
  have hb := hC.2.1
  have hl : lv_has ls 2 [(0, .ref b)] := hl
  refine lv_aload_n hx hb dX2_init_0 rfl (lv_at hl 0 rfl) ?_
  refine x_objI (rest := []) hC hl.1 wd_131 (Nat.le_of_ble_eq_true rfl) (Nat.le_of_ble_eq_true rfl) (Nat.le_of_ble_eq_true rfl) dX2_init_1 ?_
  refine lv_aload_n hx hb dX2_init_4 rfl (lv_at hl 0 rfl) ?_
  refine lv_iconst (v := 4) hx hb dX2_init_5 (by decide) ?_
  refine x_newI (n := 4) (N := 4) hC hK hH hA (by decide) (by decide) (by decide) (Nat.le_of_ble_eq_true rfl) (Nat.le_of_ble_eq_true rfl) dX2_init_6 (fun q1 H hH => ?_)
  replace hH : Hx G A [(b, .inr (1, [.null, .null, .null, .int 0, .int 0])), (q1, .inl (G.2.1.1, 4, .inl (fun _ => 0)))] sS.heap H _ := hH
  refine W.widen (k := 1) (n := 4) (Nat.le_of_ble_eq_true rfl) (Nat.le_of_ble_eq_true rfl) ?_
  refine x_putF (ws' := [(b, .inr (1, [.ref q1, .null, .null, .int 0, .int 0])), (q1, .inl (G.2.1.1, 4, .inl (fun _ => 0)))]) (ref := RX2) (T := TX2) (N := 5) hC hK hH hin iB_X2 tyX2 tyX2_ok nmX2 1 0 0 rfl (by decide) wd_135 rfl rfl rfl rfl rfl rfl rfl (Nat.le_of_ble_eq_true rfl) dX2_init_8 rfl (fun H locs hH => ?_)
  refine lv_aload_n hx hb dX2_init_11 rfl (lv_at hl 0 rfl) ?_
  refine lv_bipush (v := 42) hx hb dX2_init_12 (by decide) ?_
  refine x_newI (n := 42) (N := 42) hC hK hH hA (by decide) (by decide) (by decide) (Nat.le_of_ble_eq_true rfl) (Nat.le_of_ble_eq_true rfl) dX2_init_14 (fun q2 H hH => ?_)
  replace hH : Hx G A [(b, .inr (1, [.ref q1, .null, .null, .int 0, .int 0])), (q1, .inl (G.2.1.1, 4, .inl (fun _ => 0))), (q2, .inl (G.2.1.1, 42, .inl (fun _ => 0)))] sS.heap H _ := hH
  refine W.widen (k := 2) (n := 46) (Nat.le_of_ble_eq_true rfl) (Nat.le_of_ble_eq_true rfl) ?_
  refine x_putF (ws' := [(b, .inr (1, [.ref q1, .ref q2, .null, .int 0, .int 0])), (q1, .inl (G.2.1.1, 4, .inl (fun _ => 0))), (q2, .inl (G.2.1.1, 42, .inl (fun _ => 0)))]) (ref := RX2) (T := TX2) (N := 5) hC hK hH hin iB_X2 tyX2 tyX2_ok nmX2 1 1 0 rfl (by decide) wd_136 rfl rfl rfl rfl rfl rfl rfl (Nat.le_of_ble_eq_true rfl) dX2_init_16 rfl (fun H locs hH => ?_)
  refine lv_aload_n hx hb dX2_init_19 rfl (lv_at hl 0 rfl) ?_
  refine lv_iconst (v := 4) hx hb dX2_init_20 (by decide) ?_
  refine x_newI (n := 4) (N := 4) hC hK hH hA (by decide) (by decide) (by decide) (Nat.le_of_ble_eq_true rfl) (Nat.le_of_ble_eq_true rfl) dX2_init_21 (fun q3 H hH => ?_)
  replace hH : Hx G A [(b, .inr (1, [.ref q1, .ref q2, .null, .int 0, .int 0])), (q1, .inl (G.2.1.1, 4, .inl (fun _ => 0))), (q2, .inl (G.2.1.1, 42, .inl (fun _ => 0))), (q3, .inl (G.2.1.1, 4, .inl (fun _ => 0)))] sS.heap H _ := hH
  refine W.widen (k := 3) (n := 50) (Nat.le_of_ble_eq_true rfl) (Nat.le_of_ble_eq_true rfl) ?_
  refine x_putF (ws' := [(b, .inr (1, [.ref q1, .ref q2, .ref q3, .int 0, .int 0])), (q1, .inl (G.2.1.1, 4, .inl (fun _ => 0))), (q2, .inl (G.2.1.1, 42, .inl (fun _ => 0))), (q3, .inl (G.2.1.1, 4, .inl (fun _ => 0)))]) (ref := RX2) (T := TX2) (N := 5) hC hK hH hin iB_X2 tyX2 tyX2_ok nmX2 1 2 0 rfl (by decide) wd_137 rfl rfl rfl rfl rfl rfl rfl (Nat.le_of_ble_eq_true rfl) dX2_init_23 rfl (fun H locs hH => ?_)
  refine lv_aload_n hx hb dX2_init_26 rfl (lv_at hl 0 rfl) ?_
  refine lv_iconst (v := 0) hx hb dX2_init_27 (by decide) ?_
  refine pf_X2_21 (ws' := [(b, .inr (1, [.ref q1, .ref q2, .ref q3, .int 0, .int 0])), (q1, .inl (G.2.1.1, 4, .inl (fun _ => 0))), (q2, .inl (G.2.1.1, 42, .inl (fun _ => 0))), (q3, .inl (G.2.1.1, 4, .inl (fun _ => 0)))]) hC hK hH 0 rfl rfl rfl (Nat.le_of_ble_eq_true rfl) dX2_init_28 rfl (fun H locs hH => ?_)
  refine lv_aload_n hx hb dX2_init_31 rfl (lv_at hl 0 rfl) ?_
  refine lv_iconst (v := 0) hx hb dX2_init_32 (by decide) ?_
  refine pf_X2_25 (ws' := [(b, .inr (1, [.ref q1, .ref q2, .ref q3, .int 0, .int 0])), (q1, .inl (G.2.1.1, 4, .inl (fun _ => 0))), (q2, .inl (G.2.1.1, 42, .inl (fun _ => 0))), (q3, .inl (G.2.1.1, 4, .inl (fun _ => 0)))]) hC hK hH 0 rfl rfl rfl (Nat.le_of_ble_eq_true rfl) dX2_init_33 rfl (fun H locs hH => ?_)
  refine lv_iconst (v := 0) hx hb dX2_init_36 (by decide) ?_
  refine lv_istore_n (lv' := [(1, .int 0), (0, .ref b)]) hx hb dX2_init_37 rfl hl (by decide) rfl (fun ls hl => ?_)
  refine lv_iload_n hx hb dX2_init_38 rfl (lv_at hl 0 rfl) ?_
  refine lv_iconst (v := 4) hx hb dX2_init_39 (by decide) ?_
  refine lv_icmp_ge (tgt := 59) hx hb dX2_init_40 (by decide) (fun c_ => ?_) (fun c_ => ?_)
  · exact absurd c_ (by decide)
  refine lv_aload_n hx hb dX2_init_43 rfl (lv_at hl 1 rfl) ?_
  refine gf_X2_18 (v := .ref q3) hC hK hH 0 rfl rfl dX2_init_44 ?_
  refine lv_iload_n hx hb dX2_init_47 rfl (lv_at hl 0 rfl) ?_
  refine lv_bipush (v := 50) hx hb dX2_init_48 (by decide) ?_
  refine x_callN (ws' := [(b, .inr (1, [.ref q1, .ref q2, .ref q3, .int 0, .int 0])), (q1, .inl (G.2.1.1, 4, .inl (fun _ => 0))), (q2, .inl (G.2.1.1, 42, .inl (fun _ => 0))), (q3, .inl (G.2.1.1, 4, .inl (putF (fun _ => 0) 4 0 50)))]) (As := [.ref q3, .int 0, .int 50]) (rest := []) (st' := []) hC hK hZ hA hl.1 hH (k_X11_put l G 4 (fun _ => q3) (fun _ => (fun _ => 0)) 0 50 (by decide)) lk_X2_28 [3] rfl rfl rfl rfl ⟨(Nat.le_of_ble_eq_true rfl), (Nat.le_of_ble_eq_true rfl)⟩ ⟨(Nat.le_of_ble_eq_true rfl), (Nat.le_of_ble_eq_true rfl)⟩ (Nat.le_of_ble_eq_true rfl) rfl dX2_init_50 (fun H locs hH => ?_)
  replace hH : Hx G A [(b, .inr (1, [.ref q1, .ref q2, .ref q3, .int 0, .int 0])), (q1, .inl (G.2.1.1, 4, .inl (fun _ => 0))), (q2, .inl (G.2.1.1, 42, .inl (fun _ => 0))), (q3, .inl (G.2.1.1, 4, .inl (upd (fun _ => 0) 0 50)))] sS.heap H locs := hH.eq (by rw [show (putF (fun _ => 0) 4 0 50) = (upd (fun _ => 0) 0 50) from putF_in (j := 0) rfl (by decide) (by decide)])
  refine lv_iinc (v := 1) (lv' := [(1, .int 1), (0, .ref b)]) hx hb dX2_init_53 hl (k := 0) rfl (by decide) (by decide) rfl (fun ls hl => ?_)
  refine lv_goto (tgt := 38) hx hb dX2_init_56 (by decide) ?_
  refine lv_iload_n hx hb dX2_init_38 rfl (lv_at hl 0 rfl) ?_
  refine lv_iconst (v := 4) hx hb dX2_init_39 (by decide) ?_
  refine lv_icmp_ge (tgt := 59) hx hb dX2_init_40 (by decide) (fun c_ => ?_) (fun c_ => ?_)
  · exact absurd c_ (by decide)
  refine lv_aload_n hx hb dX2_init_43 rfl (lv_at hl 1 rfl) ?_
  refine gf_X2_18 (v := .ref q3) hC hK hH 0 rfl rfl dX2_init_44 ?_
  refine lv_iload_n hx hb dX2_init_47 rfl (lv_at hl 0 rfl) ?_
  refine lv_bipush (v := 50) hx hb dX2_init_48 (by decide) ?_
  refine x_callN (ws' := [(b, .inr (1, [.ref q1, .ref q2, .ref q3, .int 0, .int 0])), (q1, .inl (G.2.1.1, 4, .inl (fun _ => 0))), (q2, .inl (G.2.1.1, 42, .inl (fun _ => 0))), (q3, .inl (G.2.1.1, 4, .inl (putF (upd (fun _ => 0) 0 50) 4 1 50)))]) (As := [.ref q3, .int 1, .int 50]) (rest := []) (st' := []) hC hK hZ hA hl.1 hH (k_X11_put l G 4 (fun _ => q3) (fun _ => (upd (fun _ => 0) 0 50)) 1 50 (by decide)) lk_X2_28 [3] rfl rfl rfl rfl ⟨(Nat.le_of_ble_eq_true rfl), (Nat.le_of_ble_eq_true rfl)⟩ ⟨(Nat.le_of_ble_eq_true rfl), (Nat.le_of_ble_eq_true rfl)⟩ (Nat.le_of_ble_eq_true rfl) rfl dX2_init_50 (fun H locs hH => ?_)
  replace hH : Hx G A [(b, .inr (1, [.ref q1, .ref q2, .ref q3, .int 0, .int 0])), (q1, .inl (G.2.1.1, 4, .inl (fun _ => 0))), (q2, .inl (G.2.1.1, 42, .inl (fun _ => 0))), (q3, .inl (G.2.1.1, 4, .inl (upd (upd (fun _ => 0) 0 50) 1 50)))] sS.heap H locs := hH.eq (by rw [show (putF (upd (fun _ => 0) 0 50) 4 1 50) = (upd (upd (fun _ => 0) 0 50) 1 50) from putF_in (j := 1) rfl (by decide) (by decide)])
  refine lv_iinc (v := 2) (lv' := [(1, .int 2), (0, .ref b)]) hx hb dX2_init_53 hl (k := 0) rfl (by decide) (by decide) rfl (fun ls hl => ?_)
  refine lv_goto (tgt := 38) hx hb dX2_init_56 (by decide) ?_
  refine lv_iload_n hx hb dX2_init_38 rfl (lv_at hl 0 rfl) ?_
  refine lv_iconst (v := 4) hx hb dX2_init_39 (by decide) ?_
  refine lv_icmp_ge (tgt := 59) hx hb dX2_init_40 (by decide) (fun c_ => ?_) (fun c_ => ?_)
  · exact absurd c_ (by decide)
  refine lv_aload_n hx hb dX2_init_43 rfl (lv_at hl 1 rfl) ?_
  refine gf_X2_18 (v := .ref q3) hC hK hH 0 rfl rfl dX2_init_44 ?_
  refine lv_iload_n hx hb dX2_init_47 rfl (lv_at hl 0 rfl) ?_
  refine lv_bipush (v := 50) hx hb dX2_init_48 (by decide) ?_
  refine x_callN (ws' := [(b, .inr (1, [.ref q1, .ref q2, .ref q3, .int 0, .int 0])), (q1, .inl (G.2.1.1, 4, .inl (fun _ => 0))), (q2, .inl (G.2.1.1, 42, .inl (fun _ => 0))), (q3, .inl (G.2.1.1, 4, .inl (putF (upd (upd (fun _ => 0) 0 50) 1 50) 4 2 50)))]) (As := [.ref q3, .int 2, .int 50]) (rest := []) (st' := []) hC hK hZ hA hl.1 hH (k_X11_put l G 4 (fun _ => q3) (fun _ => (upd (upd (fun _ => 0) 0 50) 1 50)) 2 50 (by decide)) lk_X2_28 [3] rfl rfl rfl rfl ⟨(Nat.le_of_ble_eq_true rfl), (Nat.le_of_ble_eq_true rfl)⟩ ⟨(Nat.le_of_ble_eq_true rfl), (Nat.le_of_ble_eq_true rfl)⟩ (Nat.le_of_ble_eq_true rfl) rfl dX2_init_50 (fun H locs hH => ?_)
  replace hH : Hx G A [(b, .inr (1, [.ref q1, .ref q2, .ref q3, .int 0, .int 0])), (q1, .inl (G.2.1.1, 4, .inl (fun _ => 0))), (q2, .inl (G.2.1.1, 42, .inl (fun _ => 0))), (q3, .inl (G.2.1.1, 4, .inl (upd (upd (upd (fun _ => 0) 0 50) 1 50) 2 50)))] sS.heap H locs := hH.eq (by rw [show (putF (upd (upd (fun _ => 0) 0 50) 1 50) 4 2 50) = (upd (upd (upd (fun _ => 0) 0 50) 1 50) 2 50) from putF_in (j := 2) rfl (by decide) (by decide)])
  refine lv_iinc (v := 3) (lv' := [(1, .int 3), (0, .ref b)]) hx hb dX2_init_53 hl (k := 0) rfl (by decide) (by decide) rfl (fun ls hl => ?_)
  refine lv_goto (tgt := 38) hx hb dX2_init_56 (by decide) ?_
  refine lv_iload_n hx hb dX2_init_38 rfl (lv_at hl 0 rfl) ?_
  refine lv_iconst (v := 4) hx hb dX2_init_39 (by decide) ?_
  refine lv_icmp_ge (tgt := 59) hx hb dX2_init_40 (by decide) (fun c_ => ?_) (fun c_ => ?_)
  · exact absurd c_ (by decide)
  refine lv_aload_n hx hb dX2_init_43 rfl (lv_at hl 1 rfl) ?_
  refine gf_X2_18 (v := .ref q3) hC hK hH 0 rfl rfl dX2_init_44 ?_
  refine lv_iload_n hx hb dX2_init_47 rfl (lv_at hl 0 rfl) ?_
  refine lv_bipush (v := 50) hx hb dX2_init_48 (by decide) ?_
  refine x_callN (ws' := [(b, .inr (1, [.ref q1, .ref q2, .ref q3, .int 0, .int 0])), (q1, .inl (G.2.1.1, 4, .inl (fun _ => 0))), (q2, .inl (G.2.1.1, 42, .inl (fun _ => 0))), (q3, .inl (G.2.1.1, 4, .inl (putF (upd (upd (upd (fun _ => 0) 0 50) 1 50) 2 50) 4 3 50)))]) (As := [.ref q3, .int 3, .int 50]) (rest := []) (st' := []) hC hK hZ hA hl.1 hH (k_X11_put l G 4 (fun _ => q3) (fun _ => (upd (upd (upd (fun _ => 0) 0 50) 1 50) 2 50)) 3 50 (by decide)) lk_X2_28 [3] rfl rfl rfl rfl ⟨(Nat.le_of_ble_eq_true rfl), (Nat.le_of_ble_eq_true rfl)⟩ ⟨(Nat.le_of_ble_eq_true rfl), (Nat.le_of_ble_eq_true rfl)⟩ (Nat.le_of_ble_eq_true rfl) rfl dX2_init_50 (fun H locs hH => ?_)
  replace hH : Hx G A [(b, .inr (1, [.ref q1, .ref q2, .ref q3, .int 0, .int 0])), (q1, .inl (G.2.1.1, 4, .inl (fun _ => 0))), (q2, .inl (G.2.1.1, 42, .inl (fun _ => 0))), (q3, .inl (G.2.1.1, 4, .inl (upd (upd (upd (upd (fun _ => 0) 0 50) 1 50) 2 50) 3 50)))] sS.heap H locs := hH.eq (by rw [show (putF (upd (upd (upd (fun _ => 0) 0 50) 1 50) 2 50) 4 3 50) = (upd (upd (upd (upd (fun _ => 0) 0 50) 1 50) 2 50) 3 50) from putF_in (j := 3) rfl (by decide) (by decide)])
  refine lv_iinc (v := 4) (lv' := [(1, .int 4), (0, .ref b)]) hx hb dX2_init_53 hl (k := 0) rfl (by decide) (by decide) rfl (fun ls hl => ?_)
  refine lv_goto (tgt := 38) hx hb dX2_init_56 (by decide) ?_
  refine lv_iload_n hx hb dX2_init_38 rfl (lv_at hl 0 rfl) ?_
  refine lv_iconst (v := 4) hx hb dX2_init_39 (by decide) ?_
  refine lv_icmp_ge (tgt := 59) hx hb dX2_init_40 (by decide) (fun c_ => ?_) (fun c_ => ?_)
  rotate_left
  · exact absurd c_ (by decide)
  exact x_nret hC hr hkL (fun k => ([q1, q2, q3] : List Nat).getD k 0) hH rfl dX2_init_59
set_option maxHeartbeats 4000000 in
set_option maxRecDepth 100000 in
theorem n_X10 (l : Launch) (G : GP) (b : Nat) : CN l G yX10_init cX10_init 1 4 11 70 [.ref b] [(b, .inr (9, [.null, .null, .null, .null, .null]))] (fun ad => [(b, .inr (9, [.ref (ad 0), .ref (ad 1), .ref (ad 2), .ref (ad 3), .ref (ad 4)])), ((ad 0), .inl (G.2.1.2, 6, .inr (.inr (.inr (.inr (fun j => ([some (ad 5), some (ad 6), some (ad 7), some (ad 8), some (ad 9), some (ad 10)] : List (Option Nat)).getD j none)))))), ((ad 1), .inl (G.2.1.1, 16, .inl (upd (fun _ => 0) 0 1))), ((ad 2), .inl (G.2.1.1, 16, .inl (fun _ => 0))), ((ad 3), .inl (G.2.1.1, 16, .inl (fun _ => 0))), ((ad 4), .inl (G.2.1.1, 16, .inl (fun _ => 0))), ((ad 5), .inr (6, [])), ((ad 6), .inr (0, [])), ((ad 7), .inr (2, [])), ((ad 8), .inr (3, [])), ((ad 9), .inr (5, [])), ((ad 10), .inr (4, []))]) := by
  refine x_methN "BetsOnBets$Ways" rfl (by decide +kernel) rfl (Nat.le_of_ble_eq_true rfl) ?_
  intro pP eE sS mM args below meth cC A ls hC hr hkL hin hK hZ hA hH hl
  have hx := hC.1
  have hb := hC.2.1
  have hl : lv_has ls 1 [(0, .ref b)] := hl
  refine lv_aload_n hx hb dX10_init_0 rfl (lv_at hl 0 rfl) ?_
  refine x_objI (rest := []) hC hl.1 wd_159 (Nat.le_of_ble_eq_true rfl) (Nat.le_of_ble_eq_true rfl) (Nat.le_of_ble_eq_true rfl) dX10_init_1 ?_
  refine lv_aload_n hx hb dX10_init_4 rfl (lv_at hl 0 rfl) ?_
  refine lv_bipush (v := 6) hx hb dX10_init_5 (by decide) ?_
  refine x_newQ (n := 6) (N := 6) hC hK hH hA wd_160 (by decide) (by decide) (by decide) (Nat.le_of_ble_eq_true rfl) (Nat.le_of_ble_eq_true rfl) dX10_init_7 (fun q1 H hH => ?_)
  replace hH : Hx G A [(b, .inr (9, [.null, .null, .null, .null, .null])), (q1, .inl (G.2.1.2, 6, .inr (.inr (.inr (.inr (fun _ => none))))))] sS.heap H _ := hH
  refine W.widen (k := 1) (n := 6) (Nat.le_of_ble_eq_true rfl) (Nat.le_of_ble_eq_true rfl) ?_
  refine lv_dup hx hb dX10_init_10 rfl ?_
  refine lv_iconst (v := 0) hx hb dX10_init_11 (by decide) ?_
  refine x_newO (C := RX7) (T := TX7) (N := 0) (fs := []) hC hK hH hA iB_X7 tyX7 tyX7_ok wd_162 wd_163 wd_62 (ci := 6) rfl (fun j hj => absurd hj (Nat.not_lt_zero j)) (Nat.le_of_ble_eq_true rfl) (Nat.le_of_ble_eq_true rfl) dX10_init_12 (fun q2 H hH => ?_)
  replace hH : Hx G A [(b, .inr (9, [.null, .null, .null, .null, .null])), (q1, .inl (G.2.1.2, 6, .inr (.inr (.inr (.inr (fun _ => none)))))), (q2, .inr (6, []))] sS.heap H _ := hH
  refine W.widen (k := 2) (n := 6) (Nat.le_of_ble_eq_true rfl) (Nat.le_of_ble_eq_true rfl) ?_
  refine lv_dup hx hb dX10_init_15 rfl ?_
  refine x_initN (As := []) (rest := [.ref q2, .int 0, .ref q1, .ref q1, .ref b]) (wr := [(b, .inr (9, [.null, .null, .null, .null, .null])), (q1, .inl (G.2.1.2, 6, .inr (.inr (.inr (.inr (fun _ => none)))))), (q2, .inr (6, []))]) hC hK hZ hA hl.1 hH (n_X7 l G q2) xl_X10_13 [] [0, 1, 2] rfl (by decide) rfl (by decide) (by decide) rfl ⟨(Nat.le_of_ble_eq_true rfl), (Nat.le_of_ble_eq_true rfl)⟩ ⟨(Nat.le_of_ble_eq_true rfl), (Nat.le_of_ble_eq_true rfl)⟩ (Nat.le_of_ble_eq_true rfl) dX10_init_16 (fun a3 H locs hH => ?_)
  replace hH : Hx G A [(b, .inr (9, [.null, .null, .null, .null, .null])), (q1, .inl (G.2.1.2, 6, .inr (.inr (.inr (.inr (fun _ => none)))))), (q2, .inr (6, []))] sS.heap H _ := hH
  refine W.widen (k := 2) (n := 6) (Nat.le_of_ble_eq_true rfl) (Nat.le_of_ble_eq_true rfl) ?_
  refine x_astN (j := 0) (ws' := [(b, .inr (9, [.null, .null, .null, .null, .null])), (q1, .inl (G.2.1.2, 6, .inr (.inr (.inr (.inr (va_up (fun _ => none) 0 (some q2))))))), (q2, .inr (6, []))]) hC hK hH 1 2 6 rfl (List.mem_of_getElem? (i := 32) rfl) rfl rfl rfl (by decide) (by decide) dX10_init_19 rfl (fun H locs hH => ?_)
  refine lv_dup hx hb dX10_init_20 rfl ?_
  refine lv_iconst (v := 1) hx hb dX10_init_21 (by decide) ?_
  refine x_newO (C := RX0) (T := TX0) (N := 0) (fs := []) hC hK hH hA iB_X0 tyX0 tyX0_ok wd_172 wd_173 wd_63 (ci := 0) rfl (fun j hj => absurd hj (Nat.not_lt_zero j)) (Nat.le_of_ble_eq_true rfl) (Nat.le_of_ble_eq_true rfl) dX10_init_22 (fun q4 H hH => ?_)
  replace hH : Hx G A [(b, .inr (9, [.null, .null, .null, .null, .null])), (q1, .inl (G.2.1.2, 6, .inr (.inr (.inr (.inr (va_up (fun _ => none) 0 (some q2))))))), (q2, .inr (6, [])), (q4, .inr (0, []))] sS.heap H _ := hH
  refine W.widen (k := 3) (n := 6) (Nat.le_of_ble_eq_true rfl) (Nat.le_of_ble_eq_true rfl) ?_
  refine lv_dup hx hb dX10_init_25 rfl ?_
  refine x_initN (As := []) (rest := [.ref q4, .int 1, .ref q1, .ref q1, .ref b]) (wr := [(b, .inr (9, [.null, .null, .null, .null, .null])), (q1, .inl (G.2.1.2, 6, .inr (.inr (.inr (.inr (va_up (fun _ => none) 0 (some q2))))))), (q2, .inr (6, [])), (q4, .inr (0, []))]) hC hK hZ hA hl.1 hH (n_X0 l G q4) xl_X10_16 [] [0, 1, 2, 3] rfl (by decide) rfl (by decide) (by decide) rfl ⟨(Nat.le_of_ble_eq_true rfl), (Nat.le_of_ble_eq_true rfl)⟩ ⟨(Nat.le_of_ble_eq_true rfl), (Nat.le_of_ble_eq_true rfl)⟩ (Nat.le_of_ble_eq_true rfl) dX10_init_26 (fun a5 H locs hH => ?_)
  replace hH : Hx G A [(b, .inr (9, [.null, .null, .null, .null, .null])), (q1, .inl (G.2.1.2, 6, .inr (.inr (.inr (.inr (va_up (fun _ => none) 0 (some q2))))))), (q2, .inr (6, [])), (q4, .inr (0, []))] sS.heap H _ := hH
  refine W.widen (k := 3) (n := 6) (Nat.le_of_ble_eq_true rfl) (Nat.le_of_ble_eq_true rfl) ?_
  refine x_astN (j := 1) (ws' := [(b, .inr (9, [.null, .null, .null, .null, .null])), (q1, .inl (G.2.1.2, 6, .inr (.inr (.inr (.inr (va_up (va_up (fun _ => none) 0 (some q2)) 1 (some q4))))))), (q2, .inr (6, [])), (q4, .inr (0, []))]) hC hK hH 1 3 0 rfl (List.mem_of_getElem? (i := 33) rfl) rfl rfl rfl (by decide) (by decide) dX10_init_29 rfl (fun H locs hH => ?_)
  refine lv_dup hx hb dX10_init_30 rfl ?_
  refine lv_iconst (v := 2) hx hb dX10_init_31 (by decide) ?_
  refine x_newO (C := RX3) (T := TX3) (N := 0) (fs := []) hC hK hH hA iB_X3 tyX3 tyX3_ok wd_179 wd_180 wd_64 (ci := 2) rfl (fun j hj => absurd hj (Nat.not_lt_zero j)) (Nat.le_of_ble_eq_true rfl) (Nat.le_of_ble_eq_true rfl) dX10_init_32 (fun q6 H hH => ?_)
  replace hH : Hx G A [(b, .inr (9, [.null, .null, .null, .null, .null])), (q1, .inl (G.2.1.2, 6, .inr (.inr (.inr (.inr (va_up (va_up (fun _ => none) 0 (some q2)) 1 (some q4))))))), (q2, .inr (6, [])), (q4, .inr (0, [])), (q6, .inr (2, []))] sS.heap H _ := hH
  refine W.widen (k := 4) (n := 6) (Nat.le_of_ble_eq_true rfl) (Nat.le_of_ble_eq_true rfl) ?_
  refine lv_dup hx hb dX10_init_35 rfl ?_
  refine x_initN (As := []) (rest := [.ref q6, .int 2, .ref q1, .ref q1, .ref b]) (wr := [(b, .inr (9, [.null, .null, .null, .null, .null])), (q1, .inl (G.2.1.2, 6, .inr (.inr (.inr (.inr (va_up (va_up (fun _ => none) 0 (some q2)) 1 (some q4))))))), (q2, .inr (6, [])), (q4, .inr (0, [])), (q6, .inr (2, []))]) hC hK hZ hA hl.1 hH (n_X3 l G q6) xl_X10_19 [] [0, 1, 2, 3, 4] rfl (by decide) rfl (by decide) (by decide) rfl ⟨(Nat.le_of_ble_eq_true rfl), (Nat.le_of_ble_eq_true rfl)⟩ ⟨(Nat.le_of_ble_eq_true rfl), (Nat.le_of_ble_eq_true rfl)⟩ (Nat.le_of_ble_eq_true rfl) dX10_init_36 (fun a7 H locs hH => ?_)
  replace hH : Hx G A [(b, .inr (9, [.null, .null, .null, .null, .null])), (q1, .inl (G.2.1.2, 6, .inr (.inr (.inr (.inr (va_up (va_up (fun _ => none) 0 (some q2)) 1 (some q4))))))), (q2, .inr (6, [])), (q4, .inr (0, [])), (q6, .inr (2, []))] sS.heap H _ := hH
  refine W.widen (k := 4) (n := 6) (Nat.le_of_ble_eq_true rfl) (Nat.le_of_ble_eq_true rfl) ?_
  refine x_astN (j := 2) (ws' := [(b, .inr (9, [.null, .null, .null, .null, .null])), (q1, .inl (G.2.1.2, 6, .inr (.inr (.inr (.inr (va_up (va_up (va_up (fun _ => none) 0 (some q2)) 1 (some q4)) 2 (some q6))))))), (q2, .inr (6, [])), (q4, .inr (0, [])), (q6, .inr (2, []))]) hC hK hH 1 4 2 rfl (List.mem_of_getElem? (i := 34) rfl) rfl rfl rfl (by decide) (by decide) dX10_init_39 rfl (fun H locs hH => ?_)
  refine lv_dup hx hb dX10_init_40 rfl ?_
  refine lv_iconst (v := 3) hx hb dX10_init_41 (by decide) ?_
  refine x_newO (C := RX4) (T := TX4) (N := 0) (fs := []) hC hK hH hA iB_X4 tyX4 tyX4_ok wd_186 wd_187 wd_65 (ci := 3) rfl (fun j hj => absurd hj (Nat.not_lt_zero j)) (Nat.le_of_ble_eq_true rfl) (Nat.le_of_ble_eq_true rfl) dX10_init_42 (fun q8 H hH => ?_)
  replace hH : Hx G A [(b, .inr (9, [.null, .null, .null, .null, .null])), (q1, .inl (G.2.1.2, 6, .inr (.inr (.inr (.inr (va_up (va_up (va_up (fun _ => none) 0 (some q2)) 1 (some q4)) 2 (some q6))))))), (q2, .inr (6, [])), (q4, .inr (0, [])), (q6, .inr (2, [])), (q8, .inr (3, []))] sS.heap H _ := hH
  refine W.widen (k := 5) (n := 6) (Nat.le_of_ble_eq_true rfl) (Nat.le_of_ble_eq_true rfl) ?_
  refine lv_dup hx hb dX10_init_45 rfl ?_
  refine x_initN (As := []) (rest := [.ref q8, .int 3, .ref q1, .ref q1, .ref b]) (wr := [(b, .inr (9, [.null, .null, .null, .null, .null])), (q1, .inl (G.2.1.2, 6, .inr (.inr (.inr (.inr (va_up (va_up (va_up (fun _ => none) 0 (some q2)) 1 (some q4)) 2 (some q6))))))), (q2, .inr (6, [])), (q4, .inr (0, [])), (q6, .inr (2, [])), (q8, .inr (3, []))]) hC hK hZ hA hl.1 hH (n_X4 l G q8) xl_X10_22 [] [0, 1, 2, 3, 4, 5] rfl (by decide) rfl (by decide) (by decide) rfl ⟨(Nat.le_of_ble_eq_true rfl), (Nat.le_of_ble_eq_true rfl)⟩ ⟨(Nat.le_of_ble_eq_true rfl), (Nat.le_of_ble_eq_true rfl)⟩ (Nat.le_of_ble_eq_true rfl) dX10_init_46 (fun a9 H locs hH => ?_)
  replace hH : Hx G A [(b, .inr (9, [.null, .null, .null, .null, .null])), (q1, .inl (G.2.1.2, 6, .inr (.inr (.inr (.inr (va_up (va_up (va_up (fun _ => none) 0 (some q2)) 1 (some q4)) 2 (some q6))))))), (q2, .inr (6, [])), (q4, .inr (0, [])), (q6, .inr (2, [])), (q8, .inr (3, []))] sS.heap H _ := hH
  refine W.widen (k := 5) (n := 6) (Nat.le_of_ble_eq_true rfl) (Nat.le_of_ble_eq_true rfl) ?_
  refine x_astN (j := 3) (ws' := [(b, .inr (9, [.null, .null, .null, .null, .null])), (q1, .inl (G.2.1.2, 6, .inr (.inr (.inr (.inr (va_up (va_up (va_up (va_up (fun _ => none) 0 (some q2)) 1 (some q4)) 2 (some q6)) 3 (some q8))))))), (q2, .inr (6, [])), (q4, .inr (0, [])), (q6, .inr (2, [])), (q8, .inr (3, []))]) hC hK hH 1 5 3 rfl (List.mem_of_getElem? (i := 35) rfl) rfl rfl rfl (by decide) (by decide) dX10_init_49 rfl (fun H locs hH => ?_)
  refine lv_dup hx hb dX10_init_50 rfl ?_
  refine lv_iconst (v := 4) hx hb dX10_init_51 (by decide) ?_
  refine x_newO (C := RX6) (T := TX6) (N := 0) (fs := []) hC hK hH hA iB_X6 tyX6 tyX6_ok wd_193 wd_194 wd_66 (ci := 5) rfl (fun j hj => absurd hj (Nat.not_lt_zero j)) (Nat.le_of_ble_eq_true rfl) (Nat.le_of_ble_eq_true rfl) dX10_init_52 (fun q10 H hH => ?_)
  replace hH : Hx G A [(b, .inr (9, [.null, .null, .null, .null, .null])), (q1, .inl (G.2.1.2, 6, .inr (.inr (.inr (.inr (va_up (va_up (va_up (va_up (fun _ => none) 0 (some q2)) 1 (some q4)) 2 (some q6)) 3 (some q8))))))), (q2, .inr (6, [])), (q4, .inr (0, [])), (q6, .inr (2, [])), (q8, .inr (3, [])), (q10, .inr (5, []))] sS.heap H _ := hH
  refine W.widen (k := 6) (n := 6) (Nat.le_of_ble_eq_true rfl) (Nat.le_of_ble_eq_true rfl) ?_
  refine lv_dup hx hb dX10_init_55 rfl ?_
  refine x_initN (As := []) (rest := [.ref q10, .int 4, .ref q1, .ref q1, .ref b]) (wr := [(b, .inr (9, [.null, .null, .null, .null, .null])), (q1, .inl (G.2.1.2, 6, .inr (.inr (.inr (.inr (va_up (va_up (va_up (va_up (fun _ => none) 0 (some q2)) 1 (some q4)) 2 (some q6)) 3 (some q8))))))), (q2, .inr (6, [])), (q4, .inr (0, [])), (q6, .inr (2, [])), (q8, .inr (3, [])), (q10, .inr (5, []))]) hC hK hZ hA hl.1 hH (n_X6 l G q10) xl_X10_25 [] [0, 1, 2, 3, 4, 5, 6] rfl (by decide) rfl (by decide) (by decide) rfl ⟨(Nat.le_of_ble_eq_true rfl), (Nat.le_of_ble_eq_true rfl)⟩ ⟨(Nat.le_of_ble_eq_true rfl), (Nat.le_of_ble_eq_true rfl)⟩ (Nat.le_of_ble_eq_true rfl) dX10_init_56 (fun a11 H locs hH => ?_)
  replace hH : Hx G A [(b, .inr (9, [.null, .null, .null, .null, .null])), (q1, .inl (G.2.1.2, 6, .inr (.inr (.inr (.inr (va_up (va_up (va_up (va_up (fun _ => none) 0 (some q2)) 1 (some q4)) 2 (some q6)) 3 (some q8))))))), (q2, .inr (6, [])), (q4, .inr (0, [])), (q6, .inr (2, [])), (q8, .inr (3, [])), (q10, .inr (5, []))] sS.heap H _ := hH
  refine W.widen (k := 6) (n := 6) (Nat.le_of_ble_eq_true rfl) (Nat.le_of_ble_eq_true rfl) ?_
  refine x_astN (j := 4) (ws' := [(b, .inr (9, [.null, .null, .null, .null, .null])), (q1, .inl (G.2.1.2, 6, .inr (.inr (.inr (.inr (va_up (va_up (va_up (va_up (va_up (fun _ => none) 0 (some q2)) 1 (some q4)) 2 (some q6)) 3 (some q8)) 4 (some q10))))))), (q2, .inr (6, [])), (q4, .inr (0, [])), (q6, .inr (2, [])), (q8, .inr (3, [])), (q10, .inr (5, []))]) hC hK hH 1 6 5 rfl (List.mem_of_getElem? (i := 36) rfl) rfl rfl rfl (by decide) (by decide) dX10_init_59 rfl (fun H locs hH => ?_)
  refine lv_dup hx hb dX10_init_60 rfl ?_
  refine lv_iconst (v := 5) hx hb dX10_init_61 (by decide) ?_
  refine x_newO (C := RX5) (T := TX5) (N := 0) (fs := []) hC hK hH hA iB_X5 tyX5 tyX5_ok wd_200 wd_201 wd_67 (ci := 4) rfl (fun j hj => absurd hj (Nat.not_lt_zero j)) (Nat.le_of_ble_eq_true rfl) (Nat.le_of_ble_eq_true rfl) dX10_init_62 (fun q12 H hH => ?_)
  replace hH : Hx G A [(b, .inr (9, [.null, .null, .null, .null, .null])), (q1, .inl (G.2.1.2, 6, .inr (.inr (.inr (.inr (va_up (va_up (va_up (va_up (va_up (fun _ => none) 0 (some q2)) 1 (some q4)) 2 (some q6)) 3 (some q8)) 4 (some q10))))))), (q2, .inr (6, [])), (q4, .inr (0, [])), (q6, .inr (2, [])), (q8, .inr (3, [])), (q10, .inr (5, [])), (q12, .inr (4, []))] sS.heap H _ := hH
  refine W.widen (k := 7) (n := 6) (Nat.le_of_ble_eq_true rfl) (Nat.le_of_ble_eq_true rfl) ?_
  refine lv_dup hx hb dX10_init_65 rfl ?_
  refine x_initN (As := []) (rest := [.ref q12, .int 5, .ref q1, .ref q1, .ref b]) (wr := [(b, .inr (9, [.null, .null, .null, .null, .null])), (q1, .inl (G.2.1.2, 6, .inr (.inr (.inr (.inr (va_up (va_up (va_up (va_up (va_up (fun _ => none) 0 (some q2)) 1 (some q4)) 2 (some q6)) 3 (some q8)) 4 (some q10))))))), (q2, .inr (6, [])), (q4, .inr (0, [])), (q6, .inr (2, [])), (q8, .inr (3, [])), (q10, .inr (5, [])), (q12, .inr (4, []))]) hC hK hZ hA hl.1 hH (n_X5 l G q12) xl_X10_28 [] [0, 1, 2, 3, 4, 5, 6, 7] rfl (by decide) rfl (by decide) (by decide) rfl ⟨(Nat.le_of_ble_eq_true rfl), (Nat.le_of_ble_eq_true rfl)⟩ ⟨(Nat.le_of_ble_eq_true rfl), (Nat.le_of_ble_eq_true rfl)⟩ (Nat.le_of_ble_eq_true rfl) dX10_init_66 (fun a13 H locs hH => ?_)
  replace hH : Hx G A [(b, .inr (9, [.null, .null, .null, .null, .null])), (q1, .inl (G.2.1.2, 6, .inr (.inr (.inr (.inr (va_up (va_up (va_up (va_up (va_up (fun _ => none) 0 (some q2)) 1 (some q4)) 2 (some q6)) 3 (some q8)) 4 (some q10))))))), (q2, .inr (6, [])), (q4, .inr (0, [])), (q6, .inr (2, [])), (q8, .inr (3, [])), (q10, .inr (5, [])), (q12, .inr (4, []))] sS.heap H _ := hH
  refine W.widen (k := 7) (n := 6) (Nat.le_of_ble_eq_true rfl) (Nat.le_of_ble_eq_true rfl) ?_
  refine x_astN (j := 5) (ws' := [(b, .inr (9, [.null, .null, .null, .null, .null])), (q1, .inl (G.2.1.2, 6, .inr (.inr (.inr (.inr (va_up (va_up (va_up (va_up (va_up (va_up (fun _ => none) 0 (some q2)) 1 (some q4)) 2 (some q6)) 3 (some q8)) 4 (some q10)) 5 (some q12))))))), (q2, .inr (6, [])), (q4, .inr (0, [])), (q6, .inr (2, [])), (q8, .inr (3, [])), (q10, .inr (5, [])), (q12, .inr (4, []))]) hC hK hH 1 7 4 rfl (List.mem_of_getElem? (i := 37) rfl) rfl rfl rfl (by decide) (by decide) dX10_init_69 rfl (fun H locs hH => ?_)
  refine x_putF (ws' := [(b, .inr (9, [.ref q1, .null, .null, .null, .null])), (q1, .inl (G.2.1.2, 6, .inr (.inr (.inr (.inr (va_up (va_up (va_up (va_up (va_up (va_up (fun _ => none) 0 (some q2)) 1 (some q4)) 2 (some q6)) 3 (some q8)) 4 (some q10)) 5 (some q12))))))), (q2, .inr (6, [])), (q4, .inr (0, [])), (q6, .inr (2, [])), (q8, .inr (3, [])), (q10, .inr (5, [])), (q12, .inr (4, []))]) (ref := RX10) (T := TX10) (N := 5) hC hK hH hin iB_X10 tyX10 tyX10_ok nmX10 9 0 0 rfl (by decide) wd_208 rfl rfl rfl rfl rfl rfl rfl (Nat.le_of_ble_eq_true rfl) dX10_init_70 rfl (fun H locs hH => ?_)
  refine lv_aload_n hx hb dX10_init_73 rfl (lv_at hl 0 rfl) ?_
  refine lv_bipush (v := 16) hx hb dX10_init_74 (by decide) ?_
  refine x_newI (n := 16) (N := 16) hC hK hH hA (by decide) (by decide) (by decide) (Nat.le_of_ble_eq_true rfl) (Nat.le_of_ble_eq_true rfl) dX10_init_76 (fun q14 H hH => ?_)
  replace hH : Hx G A [(b, .inr (9, [.ref q1, .null, .null, .null, .null])), (q1, .inl (G.2.1.2, 6, .inr (.inr (.inr (.inr (va_up (va_up (va_up (va_up (va_up (va_up (fun _ => none) 0 (some q2)) 1 (some q4)) 2 (some q6)) 3 (some q8)) 4 (some q10)) 5 (some q12))))))), (q2, .inr (6, [])), (q4, .inr (0, [])), (q6, .inr (2, [])), (q8, .inr (3, [])), (q10, .inr (5, [])), (q12, .inr (4, [])), (q14, .inl (G.2.1.1, 16, .inl (fun _ => 0)))] sS.heap H _ := hH
  refine W.widen (k := 8) (n := 22) (Nat.le_of_ble_eq_true rfl) (Nat.le_of_ble_eq_true rfl) ?_
  refine x_putF (ws' := [(b, .inr (9, [.ref q1, .ref q14, .null, .null, .null])), (q1, .inl (G.2.1.2, 6, .inr (.inr (.inr (.inr (va_up (va_up (va_up (va_up (va_up (va_up (fun _ => none) 0 (some q2)) 1 (some q4)) 2 (some q6)) 3 (some q8)) 4 (some q10)) 5 (some q12))))))), (q2, .inr (6, [])), (q4, .inr (0, [])), (q6, .inr (2, [])), (q8, .inr (3, [])), (q10, .inr (5, [])), (q12, .inr (4, [])), (q14, .inl (G.2.1.1, 16, .inl (fun _ => 0)))]) (ref := RX10) (T := TX10) (N := 5) hC hK hH hin iB_X10 tyX10 tyX10_ok nmX10 9 1 0 rfl (by decide) wd_209 rfl rfl rfl rfl rfl rfl rfl (Nat.le_of_ble_eq_true rfl) dX10_init_78 rfl (fun H locs hH => ?_)
  refine lv_aload_n hx hb dX10_init_81 rfl (lv_at hl 0 rfl) ?_
  refine lv_bipush (v := 16) hx hb dX10_init_82 (by decide) ?_
  refine x_newI (n := 16) (N := 16) hC hK hH hA (by decide) (by decide) (by decide) (Nat.le_of_ble_eq_true rfl) (Nat.le_of_ble_eq_true rfl) dX10_init_84 (fun q15 H hH => ?_)
  replace hH : Hx G A [(b, .inr (9, [.ref q1, .ref q14, .null, .null, .null])), (q1, .inl (G.2.1.2, 6, .inr (.inr (.inr (.inr (va_up (va_up (va_up (va_up (va_up (va_up (fun _ => none) 0 (some q2)) 1 (some q4)) 2 (some q6)) 3 (some q8)) 4 (some q10)) 5 (some q12))))))), (q2, .inr (6, [])), (q4, .inr (0, [])), (q6, .inr (2, [])), (q8, .inr (3, [])), (q10, .inr (5, [])), (q12, .inr (4, [])), (q14, .inl (G.2.1.1, 16, .inl (fun _ => 0))), (q15, .inl (G.2.1.1, 16, .inl (fun _ => 0)))] sS.heap H _ := hH
  refine W.widen (k := 9) (n := 38) (Nat.le_of_ble_eq_true rfl) (Nat.le_of_ble_eq_true rfl) ?_
  refine x_putF (ws' := [(b, .inr (9, [.ref q1, .ref q14, .ref q15, .null, .null])), (q1, .inl (G.2.1.2, 6, .inr (.inr (.inr (.inr (va_up (va_up (va_up (va_up (va_up (va_up (fun _ => none) 0 (some q2)) 1 (some q4)) 2 (some q6)) 3 (some q8)) 4 (some q10)) 5 (some q12))))))), (q2, .inr (6, [])), (q4, .inr (0, [])), (q6, .inr (2, [])), (q8, .inr (3, [])), (q10, .inr (5, [])), (q12, .inr (4, [])), (q14, .inl (G.2.1.1, 16, .inl (fun _ => 0))), (q15, .inl (G.2.1.1, 16, .inl (fun _ => 0)))]) (ref := RX10) (T := TX10) (N := 5) hC hK hH hin iB_X10 tyX10 tyX10_ok nmX10 9 2 0 rfl (by decide) wd_210 rfl rfl rfl rfl rfl rfl rfl (Nat.le_of_ble_eq_true rfl) dX10_init_86 rfl (fun H locs hH => ?_)
  refine lv_aload_n hx hb dX10_init_89 rfl (lv_at hl 0 rfl) ?_
  refine lv_bipush (v := 16) hx hb dX10_init_90 (by decide) ?_
  refine x_newI (n := 16) (N := 16) hC hK hH hA (by decide) (by decide) (by decide) (Nat.le_of_ble_eq_true rfl) (Nat.le_of_ble_eq_true rfl) dX10_init_92 (fun q16 H hH => ?_)
  replace hH : Hx G A [(b, .inr (9, [.ref q1, .ref q14, .ref q15, .null, .null])), (q1, .inl (G.2.1.2, 6, .inr (.inr (.inr (.inr (va_up (va_up (va_up (va_up (va_up (va_up (fun _ => none) 0 (some q2)) 1 (some q4)) 2 (some q6)) 3 (some q8)) 4 (some q10)) 5 (some q12))))))), (q2, .inr (6, [])), (q4, .inr (0, [])), (q6, .inr (2, [])), (q8, .inr (3, [])), (q10, .inr (5, [])), (q12, .inr (4, [])), (q14, .inl (G.2.1.1, 16, .inl (fun _ => 0))), (q15, .inl (G.2.1.1, 16, .inl (fun _ => 0))), (q16, .inl (G.2.1.1, 16, .inl (fun _ => 0)))] sS.heap H _ := hH
  refine W.widen (k := 10) (n := 54) (Nat.le_of_ble_eq_true rfl) (Nat.le_of_ble_eq_true rfl) ?_
  refine x_putF (ws' := [(b, .inr (9, [.ref q1, .ref q14, .ref q15, .ref q16, .null])), (q1, .inl (G.2.1.2, 6, .inr (.inr (.inr (.inr (va_up (va_up (va_up (va_up (va_up (va_up (fun _ => none) 0 (some q2)) 1 (some q4)) 2 (some q6)) 3 (some q8)) 4 (some q10)) 5 (some q12))))))), (q2, .inr (6, [])), (q4, .inr (0, [])), (q6, .inr (2, [])), (q8, .inr (3, [])), (q10, .inr (5, [])), (q12, .inr (4, [])), (q14, .inl (G.2.1.1, 16, .inl (fun _ => 0))), (q15, .inl (G.2.1.1, 16, .inl (fun _ => 0))), (q16, .inl (G.2.1.1, 16, .inl (fun _ => 0)))]) (ref := RX10) (T := TX10) (N := 5) hC hK hH hin iB_X10 tyX10 tyX10_ok nmX10 9 3 0 rfl (by decide) wd_211 rfl rfl rfl rfl rfl rfl rfl (Nat.le_of_ble_eq_true rfl) dX10_init_94 rfl (fun H locs hH => ?_)
  refine lv_aload_n hx hb dX10_init_97 rfl (lv_at hl 0 rfl) ?_
  refine lv_bipush (v := 16) hx hb dX10_init_98 (by decide) ?_
  refine x_newI (n := 16) (N := 16) hC hK hH hA (by decide) (by decide) (by decide) (Nat.le_of_ble_eq_true rfl) (Nat.le_of_ble_eq_true rfl) dX10_init_100 (fun q17 H hH => ?_)
  replace hH : Hx G A [(b, .inr (9, [.ref q1, .ref q14, .ref q15, .ref q16, .null])), (q1, .inl (G.2.1.2, 6, .inr (.inr (.inr (.inr (va_up (va_up (va_up (va_up (va_up (va_up (fun _ => none) 0 (some q2)) 1 (some q4)) 2 (some q6)) 3 (some q8)) 4 (some q10)) 5 (some q12))))))), (q2, .inr (6, [])), (q4, .inr (0, [])), (q6, .inr (2, [])), (q8, .inr (3, [])), (q10, .inr (5, [])), (q12, .inr (4, [])), (q14, .inl (G.2.1.1, 16, .inl (fun _ => 0))), (q15, .inl (G.2.1.1, 16, .inl (fun _ => 0))), (q16, .inl (G.2.1.1, 16, .inl (fun _ => 0))), (q17, .inl (G.2.1.1, 16, .inl (fun _ => 0)))] sS.heap H _ := hH
  refine W.widen (k := 11) (n := 70) (Nat.le_of_ble_eq_true rfl) (Nat.le_of_ble_eq_true rfl) ?_
  refine x_putF (ws' := [(b, .inr (9, [.ref q1, .ref q14, .ref q15, .ref q16, .ref q17])), (q1, .inl (G.2.1.2, 6, .inr (.inr (.inr (.inr (va_up (va_up (va_up (va_up (va_up (va_up (fun _ => none) 0 (some q2)) 1 (some q4)) 2 (some q6)) 3 (some q8)) 4 (some q10)) 5 (some q12))))))), (q2, .inr (6, [])), (q4, .inr (0, [])), (q6, .inr (2, [])), (q8, .inr (3, [])), (q10, .inr (5, [])), (q12, .inr (4, [])), (q14, .inl (G.2.1.1, 16, .inl (fun _ => 0))), (q15, .inl (G.2.1.1, 16, .inl (fun _ => 0))), (q16, .inl (G.2.1.1, 16, .inl (fun _ => 0))), (q17, .inl (G.2.1.1, 16, .inl (fun _ => 0)))]) (ref := RX10) (T := TX10) (N := 5) hC hK hH hin iB_X10 tyX10 tyX10_ok nmX10 9 4 0 rfl (by decide) wd_212 rfl rfl rfl rfl rfl rfl rfl (Nat.le_of_ble_eq_true rfl) dX10_init_102 rfl (fun H locs hH => ?_)
  refine lv_aload_n hx hb dX10_init_105 rfl (lv_at hl 0 rfl) ?_
  refine gf_X10_35 (v := .ref q14) hC hK hH 0 rfl rfl dX10_init_106 ?_
  refine lv_iconst (v := 0) hx hb dX10_init_109 (by decide) ?_
  refine lv_iconst (v := 1) hx hb dX10_init_110 (by decide) ?_
  refine x_callN (ws' := [(b, .inr (9, [.ref q1, .ref q14, .ref q15, .ref q16, .ref q17])), (q1, .inl (G.2.1.2, 6, .inr (.inr (.inr (.inr (va_up (va_up (va_up (va_up (va_up (va_up (fun _ => none) 0 (some q2)) 1 (some q4)) 2 (some q6)) 3 (some q8)) 4 (some q10)) 5 (some q12))))))), (q2, .inr (6, [])), (q4, .inr (0, [])), (q6, .inr (2, [])), (q8, .inr (3, [])), (q10, .inr (5, [])), (q12, .inr (4, [])), (q14, .inl (G.2.1.1, 16, .inl (putF (fun _ => 0) 16 0 1))), (q15, .inl (G.2.1.1, 16, .inl (fun _ => 0))), (q16, .inl (G.2.1.1, 16, .inl (fun _ => 0))), (q17, .inl (G.2.1.1, 16, .inl (fun _ => 0)))]) (As := [.ref q14, .int 0, .int 1]) (rest := []) (st' := []) hC hK hZ hA hl.1 hH (k_X11_put l G 16 (fun _ => q14) (fun _ => (fun _ => 0)) 0 1 (by decide)) lk_X10_48 [8] rfl rfl rfl rfl ⟨(Nat.le_of_ble_eq_true rfl), (Nat.le_of_ble_eq_true rfl)⟩ ⟨(Nat.le_of_ble_eq_true rfl), (Nat.le_of_ble_eq_true rfl)⟩ (Nat.le_of_ble_eq_true rfl) rfl dX10_init_111 (fun H locs hH => ?_)
  replace hH : Hx G A [(b, .inr (9, [.ref q1, .ref q14, .ref q15, .ref q16, .ref q17])), (q1, .inl (G.2.1.2, 6, .inr (.inr (.inr (.inr (va_up (va_up (va_up (va_up (va_up (va_up (fun _ => none) 0 (some q2)) 1 (some q4)) 2 (some q6)) 3 (some q8)) 4 (some q10)) 5 (some q12))))))), (q2, .inr (6, [])), (q4, .inr (0, [])), (q6, .inr (2, [])), (q8, .inr (3, [])), (q10, .inr (5, [])), (q12, .inr (4, [])), (q14, .inl (G.2.1.1, 16, .inl (upd (fun _ => 0) 0 1))), (q15, .inl (G.2.1.1, 16, .inl (fun _ => 0))), (q16, .inl (G.2.1.1, 16, .inl (fun _ => 0))), (q17, .inl (G.2.1.1, 16, .inl (fun _ => 0)))] sS.heap H locs := hH.eq (by rw [show (putF (fun _ => 0) 16 0 1) = (upd (fun _ => 0) 0 1) from putF_in (j := 0) rfl (by decide) (by decide)])
  replace hH : Hx G A [(b, .inr (9, [.ref q1, .ref q14, .ref q15, .ref q16, .ref q17])), (q1, .inl (G.2.1.2, 6, .inr (.inr (.inr (.inr (va_up (va_up (va_up (va_up (va_up (va_up (fun _ => none) 0 (some q2)) 1 (some q4)) 2 (some q6)) 3 (some q8)) 4 (some q10)) 5 (some q12))))))), (q14, .inl (G.2.1.1, 16, .inl (upd (fun _ => 0) 0 1))), (q15, .inl (G.2.1.1, 16, .inl (fun _ => 0))), (q16, .inl (G.2.1.1, 16, .inl (fun _ => 0))), (q17, .inl (G.2.1.1, 16, .inl (fun _ => 0))), (q2, .inr (6, [])), (q4, .inr (0, [])), (q6, .inr (2, [])), (q8, .inr (3, [])), (q10, .inr (5, [])), (q12, .inr (4, []))] sS.heap H locs := hx_sub hH [0, 1, 8, 9, 10, 11, 2, 3, 4, 5, 6, 7] (by decide) rfl
  replace hH : Hx G A [(b, .inr (9, [.ref q1, .ref q14, .ref q15, .ref q16, .ref q17])), (q1, .inl (G.2.1.2, 6, .inr (.inr (.inr (.inr (fun j => ([some q2, some q4, some q6, some q8, some q10, some q12] : List (Option Nat)).getD j none)))))), (q14, .inl (G.2.1.1, 16, .inl (upd (fun _ => 0) 0 1))), (q15, .inl (G.2.1.1, 16, .inl (fun _ => 0))), (q16, .inl (G.2.1.1, 16, .inl (fun _ => 0))), (q17, .inl (G.2.1.1, 16, .inl (fun _ => 0))), (q2, .inr (6, [])), (q4, .inr (0, [])), (q6, .inr (2, [])), (q8, .inr (3, [])), (q10, .inr (5, [])), (q12, .inr (4, []))] sS.heap H locs := hH.eq (by rw [show (va_up (va_up (va_up (va_up (va_up (va_up (fun _ => none) 0 (some q2)) 1 (some q4)) 2 (some q6)) 3 (some q8)) 4 (some q10)) 5 (some q12)) = (fun j => ([some q2, some q4, some q6, some q8, some q10, some q12] : List (Option Nat)).getD j none) from upk_6 _ _ _ _ _ _])
  exact x_nret hC hr hkL (fun k => ([q1, q14, q15, q16, q17, q2, q4, q6, q8, q10, q12] : List Nat).getD k 0) hH rfl dX10_init_114
set_option maxHeartbeats 4000000 in
set_option maxRecDepth 100000 in
theorem n_X11 (l : Launch) (G : GP) (b : Nat) : CN l G yX11_init cX11_init 1 5 33 368 [.ref b] [(b, .inr (10, [.null, .null, .null, .null, .null, .null, .null, .null, .null, .int 0]))] (fun ad => WC G (acons b ad) sC0) := by
  refine x_methN "BetsOnBets" rfl (by decide +kernel) rfl (Nat.le_of_ble_eq_true rfl) ?_
  intro pP eE sS mM args below meth cC A ls hC hr hkL hin hK hZ hA hH hl
  have hx := hC.1
  have hb := hC.2.1
  have hl : lv_has ls 1 [(0, .ref b)] := hl
  refine lv_aload_n hx hb dX11_init_0 rfl (lv_at hl 0 rfl) ?_
  refine x_objI (rest := []) hC hl.1 wd_80 (Nat.le_of_ble_eq_true rfl) (Nat.le_of_ble_eq_true rfl) (Nat.le_of_ble_eq_true rfl) dX11_init_1 ?_
  refine lv_aload_n hx hb dX11_init_4 rfl (lv_at hl 0 rfl) ?_
  refine x_newO (C := RX8) (T := TX8) (N := 4) (fs := [.null, .null, .int 0, .int 0]) hC hK hH hA iB_X8 tyX8 tyX8_ok wd_83 wd_84 wd_56 (ci := 7) rfl (fun j hj => by rcases (show j = 0 ∨ j = 1 ∨ j = 2 ∨ j = 3 by omega) with rfl | rfl | rfl | rfl <;> rfl) (Nat.le_of_ble_eq_true rfl) (Nat.le_of_ble_eq_true rfl) dX11_init_5 (fun q1 H hH => ?_)
  replace hH : Hx G A [(b, .inr (10, [.null, .null, .null, .null, .null, .null, .null, .null, .null, .int 0])), (q1, .inr (7, [.null, .null, .int 0, .int 0]))] sS.heap H _ := hH
  refine W.widen (k := 1) (n := 4) (Nat.le_of_ble_eq_true rfl) (Nat.le_of_ble_eq_true rfl) ?_
  refine lv_dup hx hb dX11_init_8 rfl ?_
  refine x_initN (As := []) (rest := [.ref q1, .ref b]) (wr := [(b, .inr (10, [.null, .null, .null, .null, .null, .null, .null, .null, .null, .int 0]))]) hC hK hZ hA hl.1 hH (n_X8 l G q1) xl_X11_9 [1] [0] rfl (by decide) rfl (by decide) (by decide) rfl ⟨(Nat.le_of_ble_eq_true rfl), (Nat.le_of_ble_eq_true rfl)⟩ ⟨(Nat.le_of_ble_eq_true rfl), (Nat.le_of_ble_eq_true rfl)⟩ (Nat.le_of_ble_eq_true rfl) dX11_init_9 (fun a2 H locs hH => ?_)
  replace hH : Hx G A [(b, .inr (10, [.null, .null, .null, .null, .null, .null, .null, .null, .null, .int 0])), (q1, .inr (7, [.ref (a2 0), .ref (a2 2), .int 0, .int 0])), ((a2 0), .inr (8, [.ref (a2 1), .int 0])), ((a2 1), .inl (G.2.1.1, 80, .inl (fun _ => 0))), ((a2 2), .inl (G.2.1.1, 7, .inl (fun _ => 0)))] sS.heap H _ := hH
  refine W.widen (k := 4) (n := 93) (Nat.le_of_ble_eq_true rfl) (Nat.le_of_ble_eq_true rfl) ?_
  refine x_putF (ws' := [(b, .inr (10, [.ref q1, .null, .null, .null, .null, .null, .null, .null, .null, .int 0])), (q1, .inr (7, [.ref (a2 0), .ref (a2 2), .int 0, .int 0])), ((a2 0), .inr (8, [.ref (a2 1), .int 0])), ((a2 1), .inl (G.2.1.1, 80, .inl (fun _ => 0))), ((a2 2), .inl (G.2.1.1, 7, .inl (fun _ => 0)))]) (ref := RX11) (T := TX11) (N := 10) hC hK hH hin iB_X11 tyX11 tyX11_ok nmX11 10 0 0 rfl (by decide) wd_224 rfl rfl rfl rfl rfl rfl rfl (Nat.le_of_ble_eq_true rfl) dX11_init_12 rfl (fun H locs hH => ?_)
  refine lv_aload_n hx hb dX11_init_15 rfl (lv_at hl 0 rfl) ?_
  refine x_newO (C := RX9) (T := TX9) (N := 2) (fs := [.null, .int 0]) hC hK hH hA iB_X9 tyX9 tyX9_ok wd_124 wd_90 wd_57 (ci := 8) rfl (fun j hj => by rcases (show j = 0 ∨ j = 1 by omega) with rfl | rfl <;> rfl) (Nat.le_of_ble_eq_true rfl) (Nat.le_of_ble_eq_true rfl) dX11_init_16 (fun q3 H hH => ?_)
  replace hH : Hx G A [(b, .inr (10, [.ref q1, .null, .null, .null, .null, .null, .null, .null, .null, .int 0])), (q1, .inr (7, [.ref (a2 0), .ref (a2 2), .int 0, .int 0])), ((a2 0), .inr (8, [.ref (a2 1), .int 0])), ((a2 1), .inl (G.2.1.1, 80, .inl (fun _ => 0))), ((a2 2), .inl (G.2.1.1, 7, .inl (fun _ => 0))), (q3, .inr (8, [.null, .int 0]))] sS.heap H _ := hH
  refine W.widen (k := 5) (n := 95) (Nat.le_of_ble_eq_true rfl) (Nat.le_of_ble_eq_true rfl) ?_
  refine lv_dup hx hb dX11_init_19 rfl ?_
  refine lv_iconst (v := 4) hx hb dX11_init_20 (by decide) ?_
  refine x_initD (As := [.int 4]) (rest := [.ref q3, .ref b]) (wr := [(b, .inr (10, [.ref q1, .null, .null, .null, .null, .null, .null, .null, .null, .int 0])), (q1, .inr (7, [.ref (a2 0), .ref (a2 2), .int 0, .int 0])), ((a2 0), .inr (8, [.ref (a2 1), .int 0])), ((a2 1), .inl (G.2.1.1, 80, .inl (fun _ => 0))), ((a2 2), .inl (G.2.1.1, 7, .inl (fun _ => 0)))]) hC hK hZ hA hl.1 hH (n_X9 l G q3 4 4 (Nat.le_of_ble_eq_true rfl) rfl) xl_X11_18 [5] [0, 1, 2, 3, 4] rfl (by decide) rfl (by decide) (by decide) rfl ⟨(Nat.le_of_ble_eq_true rfl), (Nat.le_of_ble_eq_true rfl)⟩ ⟨(Nat.le_of_ble_eq_true rfl), (Nat.le_of_ble_eq_true rfl)⟩ (Nat.le_of_ble_eq_true rfl) dX11_init_21 (fun a4 H locs hH => ?_)
  replace hH : Hx G A [(b, .inr (10, [.ref q1, .null, .null, .null, .null, .null, .null, .null, .null, .int 0])), (q1, .inr (7, [.ref (a2 0), .ref (a2 2), .int 0, .int 0])), ((a2 0), .inr (8, [.ref (a2 1), .int 0])), ((a2 1), .inl (G.2.1.1, 80, .inl (fun _ => 0))), ((a2 2), .inl (G.2.1.1, 7, .inl (fun _ => 0))), (q3, .inr (8, [.ref (a4 0), .int 0])), ((a4 0), .inl (G.2.1.1, 4, .inl (fun _ => 0)))] sS.heap H _ := hH
  refine W.widen (k := 6) (n := 99) (Nat.le_of_ble_eq_true rfl) (Nat.le_of_ble_eq_true rfl) ?_
  refine x_putF (ws' := [(b, .inr (10, [.ref q1, .ref q3, .null, .null, .null, .null, .null, .null, .null, .int 0])), (q1, .inr (7, [.ref (a2 0), .ref (a2 2), .int 0, .int 0])), ((a2 0), .inr (8, [.ref (a2 1), .int 0])), ((a2 1), .inl (G.2.1.1, 80, .inl (fun _ => 0))), ((a2 2), .inl (G.2.1.1, 7, .inl (fun _ => 0))), (q3, .inr (8, [.ref (a4 0), .int 0])), ((a4 0), .inl (G.2.1.1, 4, .inl (fun _ => 0)))]) (ref := RX11) (T := TX11) (N := 10) hC hK hH hin iB_X11 tyX11 tyX11_ok nmX11 10 1 0 rfl (by decide) wd_225 rfl rfl rfl rfl rfl rfl rfl (Nat.le_of_ble_eq_true rfl) dX11_init_24 rfl (fun H locs hH => ?_)
  refine lv_aload_n hx hb dX11_init_27 rfl (lv_at hl 0 rfl) ?_
  refine x_newO (C := RX2) (T := TX2) (N := 5) (fs := [.null, .null, .null, .int 0, .int 0]) hC hK hH hA iB_X2 tyX2 tyX2_ok wd_126 wd_127 wd_59 (ci := 1) rfl (fun j hj => by rcases (show j = 0 ∨ j = 1 ∨ j = 2 ∨ j = 3 ∨ j = 4 by omega) with rfl | rfl | rfl | rfl | rfl <;> rfl) (Nat.le_of_ble_eq_true rfl) (Nat.le_of_ble_eq_true rfl) dX11_init_28 (fun q5 H hH => ?_)
  replace hH : Hx G A [(b, .inr (10, [.ref q1, .ref q3, .null, .null, .null, .null, .null, .null, .null, .int 0])), (q1, .inr (7, [.ref (a2 0), .ref (a2 2), .int 0, .int 0])), ((a2 0), .inr (8, [.ref (a2 1), .int 0])), ((a2 1), .inl (G.2.1.1, 80, .inl (fun _ => 0))), ((a2 2), .inl (G.2.1.1, 7, .inl (fun _ => 0))), (q3, .inr (8, [.ref (a4 0), .int 0])), ((a4 0), .inl (G.2.1.1, 4, .inl (fun _ => 0))), (q5, .inr (1, [.null, .null, .null, .int 0, .int 0]))] sS.heap H _ := hH
  refine W.widen (k := 7) (n := 104) (Nat.le_of_ble_eq_true rfl) (Nat.le_of_ble_eq_true rfl) ?_
  refine lv_dup hx hb dX11_init_31 rfl ?_
  refine x_initD (As := []) (rest := [.ref q5, .ref b]) (wr := [(b, .inr (10, [.ref q1, .ref q3, .null, .null, .null, .null, .null, .null, .null, .int 0])), (q1, .inr (7, [.ref (a2 0), .ref (a2 2), .int 0, .int 0])), ((a2 0), .inr (8, [.ref (a2 1), .int 0])), ((a2 1), .inl (G.2.1.1, 80, .inl (fun _ => 0))), ((a2 2), .inl (G.2.1.1, 7, .inl (fun _ => 0))), (q3, .inr (8, [.ref (a4 0), .int 0])), ((a4 0), .inl (G.2.1.1, 4, .inl (fun _ => 0)))]) hC hK hZ hA hl.1 hH (n_X2 l G q5) xl_X11_27 [7] [0, 1, 2, 3, 4, 5, 6] rfl (by decide) rfl (by decide) (by decide) rfl ⟨(Nat.le_of_ble_eq_true rfl), (Nat.le_of_ble_eq_true rfl)⟩ ⟨(Nat.le_of_ble_eq_true rfl), (Nat.le_of_ble_eq_true rfl)⟩ (Nat.le_of_ble_eq_true rfl) dX11_init_32 (fun a6 H locs hH => ?_)
  replace hH : Hx G A [(b, .inr (10, [.ref q1, .ref q3, .null, .null, .null, .null, .null, .null, .null, .int 0])), (q1, .inr (7, [.ref (a2 0), .ref (a2 2), .int 0, .int 0])), ((a2 0), .inr (8, [.ref (a2 1), .int 0])), ((a2 1), .inl (G.2.1.1, 80, .inl (fun _ => 0))), ((a2 2), .inl (G.2.1.1, 7, .inl (fun _ => 0))), (q3, .inr (8, [.ref (a4 0), .int 0])), ((a4 0), .inl (G.2.1.1, 4, .inl (fun _ => 0))), (q5, .inr (1, [.ref (a6 0), .ref (a6 1), .ref (a6 2), .int 0, .int 0])), ((a6 0), .inl (G.2.1.1, 4, .inl (fun _ => 0))), ((a6 1), .inl (G.2.1.1, 42, .inl (fun _ => 0))), ((a6 2), .inl (G.2.1.1, 4, .inl (upd (upd (upd (upd (fun _ => 0) 0 50) 1 50) 2 50) 3 50)))] sS.heap H _ := hH
  refine W.widen (k := 10) (n := 154) (Nat.le_of_ble_eq_true rfl) (Nat.le_of_ble_eq_true rfl) ?_
  refine x_putF (ws' := [(b, .inr (10, [.ref q1, .ref q3, .ref q5, .null, .null, .null, .null, .null, .null, .int 0])), (q1, .inr (7, [.ref (a2 0), .ref (a2 2), .int 0, .int 0])), ((a2 0), .inr (8, [.ref (a2 1), .int 0])), ((a2 1), .inl (G.2.1.1, 80, .inl (fun _ => 0))), ((a2 2), .inl (G.2.1.1, 7, .inl (fun _ => 0))), (q3, .inr (8, [.ref (a4 0), .int 0])), ((a4 0), .inl (G.2.1.1, 4, .inl (fun _ => 0))), (q5, .inr (1, [.ref (a6 0), .ref (a6 1), .ref (a6 2), .int 0, .int 0])), ((a6 0), .inl (G.2.1.1, 4, .inl (fun _ => 0))), ((a6 1), .inl (G.2.1.1, 42, .inl (fun _ => 0))), ((a6 2), .inl (G.2.1.1, 4, .inl (upd (upd (upd (upd (fun _ => 0) 0 50) 1 50) 2 50) 3 50)))]) (ref := RX11) (T := TX11) (N := 10) hC hK hH hin iB_X11 tyX11 tyX11_ok nmX11 10 2 0 rfl (by decide) wd_226 rfl rfl rfl rfl rfl rfl rfl (Nat.le_of_ble_eq_true rfl) dX11_init_35 rfl (fun H locs hH => ?_)
  refine lv_aload_n hx hb dX11_init_38 rfl (lv_at hl 0 rfl) ?_
  refine x_newO (C := RX2) (T := TX2) (N := 5) (fs := [.null, .null, .null, .int 0, .int 0]) hC hK hH hA iB_X2 tyX2 tyX2_ok wd_126 wd_127 wd_59 (ci := 1) rfl (fun j hj => by rcases (show j = 0 ∨ j = 1 ∨ j = 2 ∨ j = 3 ∨ j = 4 by omega) with rfl | rfl | rfl | rfl | rfl <;> rfl) (Nat.le_of_ble_eq_true rfl) (Nat.le_of_ble_eq_true rfl) dX11_init_39 (fun q7 H hH => ?_)
  replace hH : Hx G A [(b, .inr (10, [.ref q1, .ref q3, .ref q5, .null, .null, .null, .null, .null, .null, .int 0])), (q1, .inr (7, [.ref (a2 0), .ref (a2 2), .int 0, .int 0])), ((a2 0), .inr (8, [.ref (a2 1), .int 0])), ((a2 1), .inl (G.2.1.1, 80, .inl (fun _ => 0))), ((a2 2), .inl (G.2.1.1, 7, .inl (fun _ => 0))), (q3, .inr (8, [.ref (a4 0), .int 0])), ((a4 0), .inl (G.2.1.1, 4, .inl (fun _ => 0))), (q5, .inr (1, [.ref (a6 0), .ref (a6 1), .ref (a6 2), .int 0, .int 0])), ((a6 0), .inl (G.2.1.1, 4, .inl (fun _ => 0))), ((a6 1), .inl (G.2.1.1, 42, .inl (fun _ => 0))), ((a6 2), .inl (G.2.1.1, 4, .inl (upd (upd (upd (upd (fun _ => 0) 0 50) 1 50) 2 50) 3 50))), (q7, .inr (1, [.null, .null, .null, .int 0, .int 0]))] sS.heap H _ := hH
  refine W.widen (k := 11) (n := 159) (Nat.le_of_ble_eq_true rfl) (Nat.le_of_ble_eq_true rfl) ?_
  refine lv_dup hx hb dX11_init_42 rfl ?_
  refine x_initD (As := []) (rest := [.ref q7, .ref b]) (wr := [(b, .inr (10, [.ref q1, .ref q3, .ref q5, .null, .null, .null, .null, .null, .null, .int 0])), (q1, .inr (7, [.ref (a2 0), .ref (a2 2), .int 0, .int 0])), ((a2 0), .inr (8, [.ref (a2 1), .int 0])), ((a2 1), .inl (G.2.1.1, 80, .inl (fun _ => 0))), ((a2 2), .inl (G.2.1.1, 7, .inl (fun _ => 0))), (q3, .inr (8, [.ref (a4 0), .int 0])), ((a4 0), .inl (G.2.1.1, 4, .inl (fun _ => 0))), (q5, .inr (1, [.ref (a6 0), .ref (a6 1), .ref (a6 2), .int 0, .int 0])), ((a6 0), .inl (G.2.1.1, 4, .inl (fun _ => 0))), ((a6 1), .inl (G.2.1.1, 42, .inl (fun _ => 0))), ((a6 2), .inl (G.2.1.1, 4, .inl (upd (upd (upd (upd (fun _ => 0) 0 50) 1 50) 2 50) 3 50)))]) hC hK hZ hA hl.1 hH (n_X2 l G q7) xl_X11_27 [11] [0, 1, 2, 3, 4, 5, 6, 7, 8, 9, 10] rfl (by decide) rfl (by decide) (by decide) rfl ⟨(Nat.le_of_ble_eq_true rfl), (Nat.le_of_ble_eq_true rfl)⟩ ⟨(Nat.le_of_ble_eq_true rfl), (Nat.le_of_ble_eq_true rfl)⟩ (Nat.le_of_ble_eq_true rfl) dX11_init_43 (fun a8 H locs hH => ?_)
  replace hH : Hx G A [(b, .inr (10, [.ref q1, .ref q3, .ref q5, .null, .null, .null, .null, .null, .null, .int 0])), (q1, .inr (7, [.ref (a2 0), .ref (a2 2), .int 0, .int 0])), ((a2 0), .inr (8, [.ref (a2 1), .int 0])), ((a2 1), .inl (G.2.1.1, 80, .inl (fun _ => 0))), ((a2 2), .inl (G.2.1.1, 7, .inl (fun _ => 0))), (q3, .inr (8, [.ref (a4 0), .int 0])), ((a4 0), .inl (G.2.1.1, 4, .inl (fun _ => 0))), (q5, .inr (1, [.ref (a6 0), .ref (a6 1), .ref (a6 2), .int 0, .int 0])), ((a6 0), .inl (G.2.1.1, 4, .inl (fun _ => 0))), ((a6 1), .inl (G.2.1.1, 42, .inl (fun _ => 0))), ((a6 2), .inl (G.2.1.1, 4, .inl (upd (upd (upd (upd (fun _ => 0) 0 50) 1 50) 2 50) 3 50))), (q7, .inr (1, [.ref (a8 0), .ref (a8 1), .ref (a8 2), .int 0, .int 0])), ((a8 0), .inl (G.2.1.1, 4, .inl (fun _ => 0))), ((a8 1), .inl (G.2.1.1, 42, .inl (fun _ => 0))), ((a8 2), .inl (G.2.1.1, 4, .inl (upd (upd (upd (upd (fun _ => 0) 0 50) 1 50) 2 50) 3 50)))] sS.heap H _ := hH
  refine W.widen (k := 14) (n := 209) (Nat.le_of_ble_eq_true rfl) (Nat.le_of_ble_eq_true rfl) ?_
  refine x_putF (ws' := [(b, .inr (10, [.ref q1, .ref q3, .ref q5, .ref q7, .null, .null, .null, .null, .null, .int 0])), (q1, .inr (7, [.ref (a2 0), .ref (a2 2), .int 0, .int 0])), ((a2 0), .inr (8, [.ref (a2 1), .int 0])), ((a2 1), .inl (G.2.1.1, 80, .inl (fun _ => 0))), ((a2 2), .inl (G.2.1.1, 7, .inl (fun _ => 0))), (q3, .inr (8, [.ref (a4 0), .int 0])), ((a4 0), .inl (G.2.1.1, 4, .inl (fun _ => 0))), (q5, .inr (1, [.ref (a6 0), .ref (a6 1), .ref (a6 2), .int 0, .int 0])), ((a6 0), .inl (G.2.1.1, 4, .inl (fun _ => 0))), ((a6 1), .inl (G.2.1.1, 42, .inl (fun _ => 0))), ((a6 2), .inl (G.2.1.1, 4, .inl (upd (upd (upd (upd (fun _ => 0) 0 50) 1 50) 2 50) 3 50))), (q7, .inr (1, [.ref (a8 0), .ref (a8 1), .ref (a8 2), .int 0, .int 0])), ((a8 0), .inl (G.2.1.1, 4, .inl (fun _ => 0))), ((a8 1), .inl (G.2.1.1, 42, .inl (fun _ => 0))), ((a8 2), .inl (G.2.1.1, 4, .inl (upd (upd (upd (upd (fun _ => 0) 0 50) 1 50) 2 50) 3 50)))]) (ref := RX11) (T := TX11) (N := 10) hC hK hH hin iB_X11 tyX11 tyX11_ok nmX11 10 3 0 rfl (by decide) wd_227 rfl rfl rfl rfl rfl rfl rfl (Nat.le_of_ble_eq_true rfl) dX11_init_46 rfl (fun H locs hH => ?_)
  refine lv_aload_n hx hb dX11_init_49 rfl (lv_at hl 0 rfl) ?_
  refine x_newO (C := RX2) (T := TX2) (N := 5) (fs := [.null, .null, .null, .int 0, .int 0]) hC hK hH hA iB_X2 tyX2 tyX2_ok wd_126 wd_127 wd_59 (ci := 1) rfl (fun j hj => by rcases (show j = 0 ∨ j = 1 ∨ j = 2 ∨ j = 3 ∨ j = 4 by omega) with rfl | rfl | rfl | rfl | rfl <;> rfl) (Nat.le_of_ble_eq_true rfl) (Nat.le_of_ble_eq_true rfl) dX11_init_50 (fun q9 H hH => ?_)
  replace hH : Hx G A [(b, .inr (10, [.ref q1, .ref q3, .ref q5, .ref q7, .null, .null, .null, .null, .null, .int 0])), (q1, .inr (7, [.ref (a2 0), .ref (a2 2), .int 0, .int 0])), ((a2 0), .inr (8, [.ref (a2 1), .int 0])), ((a2 1), .inl (G.2.1.1, 80, .inl (fun _ => 0))), ((a2 2), .inl (G.2.1.1, 7, .inl (fun _ => 0))), (q3, .inr (8, [.ref (a4 0), .int 0])), ((a4 0), .inl (G.2.1.1, 4, .inl (fun _ => 0))), (q5, .inr (1, [.ref (a6 0), .ref (a6 1), .ref (a6 2), .int 0, .int 0])), ((a6 0), .inl (G.2.1.1, 4, .inl (fun _ => 0))), ((a6 1), .inl (G.2.1.1, 42, .inl (fun _ => 0))), ((a6 2), .inl (G.2.1.1, 4, .inl (upd (upd (upd (upd (fun _ => 0) 0 50) 1 50) 2 50) 3 50))), (q7, .inr (1, [.ref (a8 0), .ref (a8 1), .ref (a8 2), .int 0, .int 0])), ((a8 0), .inl (G.2.1.1, 4, .inl (fun _ => 0))), ((a8 1), .inl (G.2.1.1, 42, .inl (fun _ => 0))), ((a8 2), .inl (G.2.1.1, 4, .inl (upd (upd (upd (upd (fun _ => 0) 0 50) 1 50) 2 50) 3 50))), (q9, .inr (1, [.null, .null, .null, .int 0, .int 0]))] sS.heap H _ := hH
  refine W.widen (k := 15) (n := 214) (Nat.le_of_ble_eq_true rfl) (Nat.le_of_ble_eq_true rfl) ?_
  refine lv_dup hx hb dX11_init_53 rfl ?_
  refine x_initD (As := []) (rest := [.ref q9, .ref b]) (wr := [(b, .inr (10, [.ref q1, .ref q3, .ref q5, .ref q7, .null, .null, .null, .null, .null, .int 0])), (q1, .inr (7, [.ref (a2 0), .ref (a2 2), .int 0, .int 0])), ((a2 0), .inr (8, [.ref (a2 1), .int 0])), ((a2 1), .inl (G.2.1.1, 80, .inl (fun _ => 0))), ((a2 2), .inl (G.2.1.1, 7, .inl (fun _ => 0))), (q3, .inr (8, [.ref (a4 0), .int 0])), ((a4 0), .inl (G.2.1.1, 4, .inl (fun _ => 0))), (q5, .inr (1, [.ref (a6 0), .ref (a6 1), .ref (a6 2), .int 0, .int 0])), ((a6 0), .inl (G.2.1.1, 4, .inl (fun _ => 0))), ((a6 1), .inl (G.2.1.1, 42, .inl (fun _ => 0))), ((a6 2), .inl (G.2.1.1, 4, .inl (upd (upd (upd (upd (fun _ => 0) 0 50) 1 50) 2 50) 3 50))), (q7, .inr (1, [.ref (a8 0), .ref (a8 1), .ref (a8 2), .int 0, .int 0])), ((a8 0), .inl (G.2.1.1, 4, .inl (fun _ => 0))), ((a8 1), .inl (G.2.1.1, 42, .inl (fun _ => 0))), ((a8 2), .inl (G.2.1.1, 4, .inl (upd (upd (upd (upd (fun _ => 0) 0 50) 1 50) 2 50) 3 50)))]) hC hK hZ hA hl.1 hH (n_X2 l G q9) xl_X11_27 [15] [0, 1, 2, 3, 4, 5, 6, 7, 8, 9, 10, 11, 12, 13, 14] rfl (by decide) rfl (by decide) (by decide) rfl ⟨(Nat.le_of_ble_eq_true rfl), (Nat.le_of_ble_eq_true rfl)⟩ ⟨(Nat.le_of_ble_eq_true rfl), (Nat.le_of_ble_eq_true rfl)⟩ (Nat.le_of_ble_eq_true rfl) dX11_init_54 (fun a10 H locs hH => ?_)
  replace hH : Hx G A [(b, .inr (10, [.ref q1, .ref q3, .ref q5, .ref q7, .null, .null, .null, .null, .null, .int 0])), (q1, .inr (7, [.ref (a2 0), .ref (a2 2), .int 0, .int 0])), ((a2 0), .inr (8, [.ref (a2 1), .int 0])), ((a2 1), .inl (G.2.1.1, 80, .inl (fun _ => 0))), ((a2 2), .inl (G.2.1.1, 7, .inl (fun _ => 0))), (q3, .inr (8, [.ref (a4 0), .int 0])), ((a4 0), .inl (G.2.1.1, 4, .inl (fun _ => 0))), (q5, .inr (1, [.ref (a6 0), .ref (a6 1), .ref (a6 2), .int 0, .int 0])), ((a6 0), .inl (G.2.1.1, 4, .inl (fun _ => 0))), ((a6 1), .inl (G.2.1.1, 42, .inl (fun _ => 0))), ((a6 2), .inl (G.2.1.1, 4, .inl (upd (upd (upd (upd (fun _ => 0) 0 50) 1 50) 2 50) 3 50))), (q7, .inr (1, [.ref (a8 0), .ref (a8 1), .ref (a8 2), .int 0, .int 0])), ((a8 0), .inl (G.2.1.1, 4, .inl (fun _ => 0))), ((a8 1), .inl (G.2.1.1, 42, .inl (fun _ => 0))), ((a8 2), .inl (G.2.1.1, 4, .inl (upd (upd (upd (upd (fun _ => 0) 0 50) 1 50) 2 50) 3 50))), (q9, .inr (1, [.ref (a10 0), .ref (a10 1), .ref (a10 2), .int 0, .int 0])), ((a10 0), .inl (G.2.1.1, 4, .inl (fun _ => 0))), ((a10 1), .inl (G.2.1.1, 42, .inl (fun _ => 0))), ((a10 2), .inl (G.2.1.1, 4, .inl (upd (upd (upd (upd (fun _ => 0) 0 50) 1 50) 2 50) 3 50)))] sS.heap H _ := hH
  refine W.widen (k := 18) (n := 264) (Nat.le_of_ble_eq_true rfl) (Nat.le_of_ble_eq_true rfl) ?_
  refine x_putF (ws' := [(b, .inr (10, [.ref q1, .ref q3, .ref q5, .ref q7, .ref q9, .null, .null, .null, .null, .int 0])), (q1, .inr (7, [.ref (a2 0), .ref (a2 2), .int 0, .int 0])), ((a2 0), .inr (8, [.ref (a2 1), .int 0])), ((a2 1), .inl (G.2.1.1, 80, .inl (fun _ => 0))), ((a2 2), .inl (G.2.1.1, 7, .inl (fun _ => 0))), (q3, .inr (8, [.ref (a4 0), .int 0])), ((a4 0), .inl (G.2.1.1, 4, .inl (fun _ => 0))), (q5, .inr (1, [.ref (a6 0), .ref (a6 1), .ref (a6 2), .int 0, .int 0])), ((a6 0), .inl (G.2.1.1, 4, .inl (fun _ => 0))), ((a6 1), .inl (G.2.1.1, 42, .inl (fun _ => 0))), ((a6 2), .inl (G.2.1.1, 4, .inl (upd (upd (upd (upd (fun _ => 0) 0 50) 1 50) 2 50) 3 50))), (q7, .inr (1, [.ref (a8 0), .ref (a8 1), .ref (a8 2), .int 0, .int 0])), ((a8 0), .inl (G.2.1.1, 4, .inl (fun _ => 0))), ((a8 1), .inl (G.2.1.1, 42, .inl (fun _ => 0))), ((a8 2), .inl (G.2.1.1, 4, .inl (upd (upd (upd (upd (fun _ => 0) 0 50) 1 50) 2 50) 3 50))), (q9, .inr (1, [.ref (a10 0), .ref (a10 1), .ref (a10 2), .int 0, .int 0])), ((a10 0), .inl (G.2.1.1, 4, .inl (fun _ => 0))), ((a10 1), .inl (G.2.1.1, 42, .inl (fun _ => 0))), ((a10 2), .inl (G.2.1.1, 4, .inl (upd (upd (upd (upd (fun _ => 0) 0 50) 1 50) 2 50) 3 50)))]) (ref := RX11) (T := TX11) (N := 10) hC hK hH hin iB_X11 tyX11 tyX11_ok nmX11 10 4 0 rfl (by decide) wd_228 rfl rfl rfl rfl rfl rfl rfl (Nat.le_of_ble_eq_true rfl) dX11_init_57 rfl (fun H locs hH => ?_)
  refine lv_aload_n hx hb dX11_init_60 rfl (lv_at hl 0 rfl) ?_
  refine x_newO (C := RX10) (T := TX10) (N := 5) (fs := [.null, .null, .null, .null, .null]) hC hK hH hA iB_X10 tyX10 tyX10_ok wd_154 wd_155 wd_60 (ci := 9) rfl (fun j hj => by rcases (show j = 0 ∨ j = 1 ∨ j = 2 ∨ j = 3 ∨ j = 4 by omega) with rfl | rfl | rfl | rfl | rfl <;> rfl) (Nat.le_of_ble_eq_true rfl) (Nat.le_of_ble_eq_true rfl) dX11_init_61 (fun q11 H hH => ?_)
  replace hH : Hx G A [(b, .inr (10, [.ref q1, .ref q3, .ref q5, .ref q7, .ref q9, .null, .null, .null, .null, .int 0])), (q1, .inr (7, [.ref (a2 0), .ref (a2 2), .int 0, .int 0])), ((a2 0), .inr (8, [.ref (a2 1), .int 0])), ((a2 1), .inl (G.2.1.1, 80, .inl (fun _ => 0))), ((a2 2), .inl (G.2.1.1, 7, .inl (fun _ => 0))), (q3, .inr (8, [.ref (a4 0), .int 0])), ((a4 0), .inl (G.2.1.1, 4, .inl (fun _ => 0))), (q5, .inr (1, [.ref (a6 0), .ref (a6 1), .ref (a6 2), .int 0, .int 0])), ((a6 0), .inl (G.2.1.1, 4, .inl (fun _ => 0))), ((a6 1), .inl (G.2.1.1, 42, .inl (fun _ => 0))), ((a6 2), .inl (G.2.1.1, 4, .inl (upd (upd (upd (upd (fun _ => 0) 0 50) 1 50) 2 50) 3 50))), (q7, .inr (1, [.ref (a8 0), .ref (a8 1), .ref (a8 2), .int 0, .int 0])), ((a8 0), .inl (G.2.1.1, 4, .inl (fun _ => 0))), ((a8 1), .inl (G.2.1.1, 42, .inl (fun _ => 0))), ((a8 2), .inl (G.2.1.1, 4, .inl (upd (upd (upd (upd (fun _ => 0) 0 50) 1 50) 2 50) 3 50))), (q9, .inr (1, [.ref (a10 0), .ref (a10 1), .ref (a10 2), .int 0, .int 0])), ((a10 0), .inl (G.2.1.1, 4, .inl (fun _ => 0))), ((a10 1), .inl (G.2.1.1, 42, .inl (fun _ => 0))), ((a10 2), .inl (G.2.1.1, 4, .inl (upd (upd (upd (upd (fun _ => 0) 0 50) 1 50) 2 50) 3 50))), (q11, .inr (9, [.null, .null, .null, .null, .null]))] sS.heap H _ := hH
  refine W.widen (k := 19) (n := 269) (Nat.le_of_ble_eq_true rfl) (Nat.le_of_ble_eq_true rfl) ?_
  refine lv_dup hx hb dX11_init_64 rfl ?_
  refine x_initD (As := []) (rest := [.ref q11, .ref b]) (wr := [(b, .inr (10, [.ref q1, .ref q3, .ref q5, .ref q7, .ref q9, .null, .null, .null, .null, .int 0])), (q1, .inr (7, [.ref (a2 0), .ref (a2 2), .int 0, .int 0])), ((a2 0), .inr (8, [.ref (a2 1), .int 0])), ((a2 1), .inl (G.2.1.1, 80, .inl (fun _ => 0))), ((a2 2), .inl (G.2.1.1, 7, .inl (fun _ => 0))), (q3, .inr (8, [.ref (a4 0), .int 0])), ((a4 0), .inl (G.2.1.1, 4, .inl (fun _ => 0))), (q5, .inr (1, [.ref (a6 0), .ref (a6 1), .ref (a6 2), .int 0, .int 0])), ((a6 0), .inl (G.2.1.1, 4, .inl (fun _ => 0))), ((a6 1), .inl (G.2.1.1, 42, .inl (fun _ => 0))), ((a6 2), .inl (G.2.1.1, 4, .inl (upd (upd (upd (upd (fun _ => 0) 0 50) 1 50) 2 50) 3 50))), (q7, .inr (1, [.ref (a8 0), .ref (a8 1), .ref (a8 2), .int 0, .int 0])), ((a8 0), .inl (G.2.1.1, 4, .inl (fun _ => 0))), ((a8 1), .inl (G.2.1.1, 42, .inl (fun _ => 0))), ((a8 2), .inl (G.2.1.1, 4, .inl (upd (upd (upd (upd (fun _ => 0) 0 50) 1 50) 2 50) 3 50))), (q9, .inr (1, [.ref (a10 0), .ref (a10 1), .ref (a10 2), .int 0, .int 0])), ((a10 0), .inl (G.2.1.1, 4, .inl (fun _ => 0))), ((a10 1), .inl (G.2.1.1, 42, .inl (fun _ => 0))), ((a10 2), .inl (G.2.1.1, 4, .inl (upd (upd (upd (upd (fun _ => 0) 0 50) 1 50) 2 50) 3 50)))]) hC hK hZ hA hl.1 hH (n_X10 l G q11) xl_X11_40 [19] [0, 1, 2, 3, 4, 5, 6, 7, 8, 9, 10, 11, 12, 13, 14, 15, 16, 17, 18] rfl (by decide) rfl (by decide) (by decide) rfl ⟨(Nat.le_of_ble_eq_true rfl), (Nat.le_of_ble_eq_true rfl)⟩ ⟨(Nat.le_of_ble_eq_true rfl), (Nat.le_of_ble_eq_true rfl)⟩ (Nat.le_of_ble_eq_true rfl) dX11_init_65 (fun a12 H locs hH => ?_)
  replace hH : Hx G A [(b, .inr (10, [.ref q1, .ref q3, .ref q5, .ref q7, .ref q9, .null, .null, .null, .null, .int 0])), (q1, .inr (7, [.ref (a2 0), .ref (a2 2), .int 0, .int 0])), ((a2 0), .inr (8, [.ref (a2 1), .int 0])), ((a2 1), .inl (G.2.1.1, 80, .inl (fun _ => 0))), ((a2 2), .inl (G.2.1.1, 7, .inl (fun _ => 0))), (q3, .inr (8, [.ref (a4 0), .int 0])), ((a4 0), .inl (G.2.1.1, 4, .inl (fun _ => 0))), (q5, .inr (1, [.ref (a6 0), .ref (a6 1), .ref (a6 2), .int 0, .int 0])), ((a6 0), .inl (G.2.1.1, 4, .inl (fun _ => 0))), ((a6 1), .inl (G.2.1.1, 42, .inl (fun _ => 0))), ((a6 2), .inl (G.2.1.1, 4, .inl (upd (upd (upd (upd (fun _ => 0) 0 50) 1 50) 2 50) 3 50))), (q7, .inr (1, [.ref (a8 0), .ref (a8 1), .ref (a8 2), .int 0, .int 0])), ((a8 0), .inl (G.2.1.1, 4, .inl (fun _ => 0))), ((a8 1), .inl (G.2.1.1, 42, .inl (fun _ => 0))), ((a8 2), .inl (G.2.1.1, 4, .inl (upd (upd (upd (upd (fun _ => 0) 0 50) 1 50) 2 50) 3 50))), (q9, .inr (1, [.ref (a10 0), .ref (a10 1), .ref (a10 2), .int 0, .int 0])), ((a10 0), .inl (G.2.1.1, 4, .inl (fun _ => 0))), ((a10 1), .inl (G.2.1.1, 42, .inl (fun _ => 0))), ((a10 2), .inl (G.2.1.1, 4, .inl (upd (upd (upd (upd (fun _ => 0) 0 50) 1 50) 2 50) 3 50))), (q11, .inr (9, [.ref (a12 0), .ref (a12 1), .ref (a12 2), .ref (a12 3), .ref (a12 4)])), ((a12 0), .inl (G.2.1.2, 6, .inr (.inr (.inr (.inr (fun j => ([some (a12 5), some (a12 6), some (a12 7), some (a12 8), some (a12 9), some (a12 10)] : List (Option Nat)).getD j none)))))), ((a12 1), .inl (G.2.1.1, 16, .inl (upd (fun _ => 0) 0 1))), ((a12 2), .inl (G.2.1.1, 16, .inl (fun _ => 0))), ((a12 3), .inl (G.2.1.1, 16, .inl (fun _ => 0))), ((a12 4), .inl (G.2.1.1, 16, .inl (fun _ => 0))), ((a12 5), .inr (6, [])), ((a12 6), .inr (0, [])), ((a12 7), .inr (2, [])), ((a12 8), .inr (3, [])), ((a12 9), .inr (5, [])), ((a12 10), .inr (4, []))] sS.heap H _ := hH
  refine W.widen (k := 30) (n := 339) (Nat.le_of_ble_eq_true rfl) (Nat.le_of_ble_eq_true rfl) ?_
  refine x_putF (ws' := [(b, .inr (10, [.ref q1, .ref q3, .ref q5, .ref q7, .ref q9, .ref q11, .null, .null, .null, .int 0])), (q1, .inr (7, [.ref (a2 0), .ref (a2 2), .int 0, .int 0])), ((a2 0), .inr (8, [.ref (a2 1), .int 0])), ((a2 1), .inl (G.2.1.1, 80, .inl (fun _ => 0))), ((a2 2), .inl (G.2.1.1, 7, .inl (fun _ => 0))), (q3, .inr (8, [.ref (a4 0), .int 0])), ((a4 0), .inl (G.2.1.1, 4, .inl (fun _ => 0))), (q5, .inr (1, [.ref (a6 0), .ref (a6 1), .ref (a6 2), .int 0, .int 0])), ((a6 0), .inl (G.2.1.1, 4, .inl (fun _ => 0))), ((a6 1), .inl (G.2.1.1, 42, .inl (fun _ => 0))), ((a6 2), .inl (G.2.1.1, 4, .inl (upd (upd (upd (upd (fun _ => 0) 0 50) 1 50) 2 50) 3 50))), (q7, .inr (1, [.ref (a8 0), .ref (a8 1), .ref (a8 2), .int 0, .int 0])), ((a8 0), .inl (G.2.1.1, 4, .inl (fun _ => 0))), ((a8 1), .inl (G.2.1.1, 42, .inl (fun _ => 0))), ((a8 2), .inl (G.2.1.1, 4, .inl (upd (upd (upd (upd (fun _ => 0) 0 50) 1 50) 2 50) 3 50))), (q9, .inr (1, [.ref (a10 0), .ref (a10 1), .ref (a10 2), .int 0, .int 0])), ((a10 0), .inl (G.2.1.1, 4, .inl (fun _ => 0))), ((a10 1), .inl (G.2.1.1, 42, .inl (fun _ => 0))), ((a10 2), .inl (G.2.1.1, 4, .inl (upd (upd (upd (upd (fun _ => 0) 0 50) 1 50) 2 50) 3 50))), (q11, .inr (9, [.ref (a12 0), .ref (a12 1), .ref (a12 2), .ref (a12 3), .ref (a12 4)])), ((a12 0), .inl (G.2.1.2, 6, .inr (.inr (.inr (.inr (fun j => ([some (a12 5), some (a12 6), some (a12 7), some (a12 8), some (a12 9), some (a12 10)] : List (Option Nat)).getD j none)))))), ((a12 1), .inl (G.2.1.1, 16, .inl (upd (fun _ => 0) 0 1))), ((a12 2), .inl (G.2.1.1, 16, .inl (fun _ => 0))), ((a12 3), .inl (G.2.1.1, 16, .inl (fun _ => 0))), ((a12 4), .inl (G.2.1.1, 16, .inl (fun _ => 0))), ((a12 5), .inr (6, [])), ((a12 6), .inr (0, [])), ((a12 7), .inr (2, [])), ((a12 8), .inr (3, [])), ((a12 9), .inr (5, [])), ((a12 10), .inr (4, []))]) (ref := RX11) (T := TX11) (N := 10) hC hK hH hin iB_X11 tyX11 tyX11_ok nmX11 10 5 0 rfl (by decide) wd_229 rfl rfl rfl rfl rfl rfl rfl (Nat.le_of_ble_eq_true rfl) dX11_init_68 rfl (fun H locs hH => ?_)
  refine lv_aload_n hx hb dX11_init_71 rfl (lv_at hl 0 rfl) ?_
  refine lv_bipush (v := 7) hx hb dX11_init_72 (by decide) ?_
  refine x_newI (n := 7) (N := 7) hC hK hH hA (by decide) (by decide) (by decide) (Nat.le_of_ble_eq_true rfl) (Nat.le_of_ble_eq_true rfl) dX11_init_74 (fun q13 H hH => ?_)
  replace hH : Hx G A [(b, .inr (10, [.ref q1, .ref q3, .ref q5, .ref q7, .ref q9, .ref q11, .null, .null, .null, .int 0])), (q1, .inr (7, [.ref (a2 0), .ref (a2 2), .int 0, .int 0])), ((a2 0), .inr (8, [.ref (a2 1), .int 0])), ((a2 1), .inl (G.2.1.1, 80, .inl (fun _ => 0))), ((a2 2), .inl (G.2.1.1, 7, .inl (fun _ => 0))), (q3, .inr (8, [.ref (a4 0), .int 0])), ((a4 0), .inl (G.2.1.1, 4, .inl (fun _ => 0))), (q5, .inr (1, [.ref (a6 0), .ref (a6 1), .ref (a6 2), .int 0, .int 0])), ((a6 0), .inl (G.2.1.1, 4, .inl (fun _ => 0))), ((a6 1), .inl (G.2.1.1, 42, .inl (fun _ => 0))), ((a6 2), .inl (G.2.1.1, 4, .inl (upd (upd (upd (upd (fun _ => 0) 0 50) 1 50) 2 50) 3 50))), (q7, .inr (1, [.ref (a8 0), .ref (a8 1), .ref (a8 2), .int 0, .int 0])), ((a8 0), .inl (G.2.1.1, 4, .inl (fun _ => 0))), ((a8 1), .inl (G.2.1.1, 42, .inl (fun _ => 0))), ((a8 2), .inl (G.2.1.1, 4, .inl (upd (upd (upd (upd (fun _ => 0) 0 50) 1 50) 2 50) 3 50))), (q9, .inr (1, [.ref (a10 0), .ref (a10 1), .ref (a10 2), .int 0, .int 0])), ((a10 0), .inl (G.2.1.1, 4, .inl (fun _ => 0))), ((a10 1), .inl (G.2.1.1, 42, .inl (fun _ => 0))), ((a10 2), .inl (G.2.1.1, 4, .inl (upd (upd (upd (upd (fun _ => 0) 0 50) 1 50) 2 50) 3 50))), (q11, .inr (9, [.ref (a12 0), .ref (a12 1), .ref (a12 2), .ref (a12 3), .ref (a12 4)])), ((a12 0), .inl (G.2.1.2, 6, .inr (.inr (.inr (.inr (fun j => ([some (a12 5), some (a12 6), some (a12 7), some (a12 8), some (a12 9), some (a12 10)] : List (Option Nat)).getD j none)))))), ((a12 1), .inl (G.2.1.1, 16, .inl (upd (fun _ => 0) 0 1))), ((a12 2), .inl (G.2.1.1, 16, .inl (fun _ => 0))), ((a12 3), .inl (G.2.1.1, 16, .inl (fun _ => 0))), ((a12 4), .inl (G.2.1.1, 16, .inl (fun _ => 0))), ((a12 5), .inr (6, [])), ((a12 6), .inr (0, [])), ((a12 7), .inr (2, [])), ((a12 8), .inr (3, [])), ((a12 9), .inr (5, [])), ((a12 10), .inr (4, [])), (q13, .inl (G.2.1.1, 7, .inl (fun _ => 0)))] sS.heap H _ := hH
  refine W.widen (k := 31) (n := 346) (Nat.le_of_ble_eq_true rfl) (Nat.le_of_ble_eq_true rfl) ?_
  refine x_putF (ws' := [(b, .inr (10, [.ref q1, .ref q3, .ref q5, .ref q7, .ref q9, .ref q11, .ref q13, .null, .null, .int 0])), (q1, .inr (7, [.ref (a2 0), .ref (a2 2), .int 0, .int 0])), ((a2 0), .inr (8, [.ref (a2 1), .int 0])), ((a2 1), .inl (G.2.1.1, 80, .inl (fun _ => 0))), ((a2 2), .inl (G.2.1.1, 7, .inl (fun _ => 0))), (q3, .inr (8, [.ref (a4 0), .int 0])), ((a4 0), .inl (G.2.1.1, 4, .inl (fun _ => 0))), (q5, .inr (1, [.ref (a6 0), .ref (a6 1), .ref (a6 2), .int 0, .int 0])), ((a6 0), .inl (G.2.1.1, 4, .inl (fun _ => 0))), ((a6 1), .inl (G.2.1.1, 42, .inl (fun _ => 0))), ((a6 2), .inl (G.2.1.1, 4, .inl (upd (upd (upd (upd (fun _ => 0) 0 50) 1 50) 2 50) 3 50))), (q7, .inr (1, [.ref (a8 0), .ref (a8 1), .ref (a8 2), .int 0, .int 0])), ((a8 0), .inl (G.2.1.1, 4, .inl (fun _ => 0))), ((a8 1), .inl (G.2.1.1, 42, .inl (fun _ => 0))), ((a8 2), .inl (G.2.1.1, 4, .inl (upd (upd (upd (upd (fun _ => 0) 0 50) 1 50) 2 50) 3 50))), (q9, .inr (1, [.ref (a10 0), .ref (a10 1), .ref (a10 2), .int 0, .int 0])), ((a10 0), .inl (G.2.1.1, 4, .inl (fun _ => 0))), ((a10 1), .inl (G.2.1.1, 42, .inl (fun _ => 0))), ((a10 2), .inl (G.2.1.1, 4, .inl (upd (upd (upd (upd (fun _ => 0) 0 50) 1 50) 2 50) 3 50))), (q11, .inr (9, [.ref (a12 0), .ref (a12 1), .ref (a12 2), .ref (a12 3), .ref (a12 4)])), ((a12 0), .inl (G.2.1.2, 6, .inr (.inr (.inr (.inr (fun j => ([some (a12 5), some (a12 6), some (a12 7), some (a12 8), some (a12 9), some (a12 10)] : List (Option Nat)).getD j none)))))), ((a12 1), .inl (G.2.1.1, 16, .inl (upd (fun _ => 0) 0 1))), ((a12 2), .inl (G.2.1.1, 16, .inl (fun _ => 0))), ((a12 3), .inl (G.2.1.1, 16, .inl (fun _ => 0))), ((a12 4), .inl (G.2.1.1, 16, .inl (fun _ => 0))), ((a12 5), .inr (6, [])), ((a12 6), .inr (0, [])), ((a12 7), .inr (2, [])), ((a12 8), .inr (3, [])), ((a12 9), .inr (5, [])), ((a12 10), .inr (4, [])), (q13, .inl (G.2.1.1, 7, .inl (fun _ => 0)))]) (ref := RX11) (T := TX11) (N := 10) hC hK hH hin iB_X11 tyX11 tyX11_ok nmX11 10 6 0 rfl (by decide) wd_230 rfl rfl rfl rfl rfl rfl rfl (Nat.le_of_ble_eq_true rfl) dX11_init_76 rfl (fun H locs hH => ?_)
  refine lv_aload_n hx hb dX11_init_79 rfl (lv_at hl 0 rfl) ?_
  refine lv_bipush (v := 16) hx hb dX11_init_80 (by decide) ?_
  refine x_newI (n := 16) (N := 16) hC hK hH hA (by decide) (by decide) (by decide) (Nat.le_of_ble_eq_true rfl) (Nat.le_of_ble_eq_true rfl) dX11_init_82 (fun q14 H hH => ?_)
  replace hH : Hx G A [(b, .inr (10, [.ref q1, .ref q3, .ref q5, .ref q7, .ref q9, .ref q11, .ref q13, .null, .null, .int 0])), (q1, .inr (7, [.ref (a2 0), .ref (a2 2), .int 0, .int 0])), ((a2 0), .inr (8, [.ref (a2 1), .int 0])), ((a2 1), .inl (G.2.1.1, 80, .inl (fun _ => 0))), ((a2 2), .inl (G.2.1.1, 7, .inl (fun _ => 0))), (q3, .inr (8, [.ref (a4 0), .int 0])), ((a4 0), .inl (G.2.1.1, 4, .inl (fun _ => 0))), (q5, .inr (1, [.ref (a6 0), .ref (a6 1), .ref (a6 2), .int 0, .int 0])), ((a6 0), .inl (G.2.1.1, 4, .inl (fun _ => 0))), ((a6 1), .inl (G.2.1.1, 42, .inl (fun _ => 0))), ((a6 2), .inl (G.2.1.1, 4, .inl (upd (upd (upd (upd (fun _ => 0) 0 50) 1 50) 2 50) 3 50))), (q7, .inr (1, [.ref (a8 0), .ref (a8 1), .ref (a8 2), .int 0, .int 0])), ((a8 0), .inl (G.2.1.1, 4, .inl (fun _ => 0))), ((a8 1), .inl (G.2.1.1, 42, .inl (fun _ => 0))), ((a8 2), .inl (G.2.1.1, 4, .inl (upd (upd (upd (upd (fun _ => 0) 0 50) 1 50) 2 50) 3 50))), (q9, .inr (1, [.ref (a10 0), .ref (a10 1), .ref (a10 2), .int 0, .int 0])), ((a10 0), .inl (G.2.1.1, 4, .inl (fun _ => 0))), ((a10 1), .inl (G.2.1.1, 42, .inl (fun _ => 0))), ((a10 2), .inl (G.2.1.1, 4, .inl (upd (upd (upd (upd (fun _ => 0) 0 50) 1 50) 2 50) 3 50))), (q11, .inr (9, [.ref (a12 0), .ref (a12 1), .ref (a12 2), .ref (a12 3), .ref (a12 4)])), ((a12 0), .inl (G.2.1.2, 6, .inr (.inr (.inr (.inr (fun j => ([some (a12 5), some (a12 6), some (a12 7), some (a12 8), some (a12 9), some (a12 10)] : List (Option Nat)).getD j none)))))), ((a12 1), .inl (G.2.1.1, 16, .inl (upd (fun _ => 0) 0 1))), ((a12 2), .inl (G.2.1.1, 16, .inl (fun _ => 0))), ((a12 3), .inl (G.2.1.1, 16, .inl (fun _ => 0))), ((a12 4), .inl (G.2.1.1, 16, .inl (fun _ => 0))), ((a12 5), .inr (6, [])), ((a12 6), .inr (0, [])), ((a12 7), .inr (2, [])), ((a12 8), .inr (3, [])), ((a12 9), .inr (5, [])), ((a12 10), .inr (4, [])), (q13, .inl (G.2.1.1, 7, .inl (fun _ => 0))), (q14, .inl (G.2.1.1, 16, .inl (fun _ => 0)))] sS.heap H _ := hH
  refine W.widen (k := 32) (n := 362) (Nat.le_of_ble_eq_true rfl) (Nat.le_of_ble_eq_true rfl) ?_
  refine x_putF (ws' := [(b, .inr (10, [.ref q1, .ref q3, .ref q5, .ref q7, .ref q9, .ref q11, .ref q13, .ref q14, .null, .int 0])), (q1, .inr (7, [.ref (a2 0), .ref (a2 2), .int 0, .int 0])), ((a2 0), .inr (8, [.ref (a2 1), .int 0])), ((a2 1), .inl (G.2.1.1, 80, .inl (fun _ => 0))), ((a2 2), .inl (G.2.1.1, 7, .inl (fun _ => 0))), (q3, .inr (8, [.ref (a4 0), .int 0])), ((a4 0), .inl (G.2.1.1, 4, .inl (fun _ => 0))), (q5, .inr (1, [.ref (a6 0), .ref (a6 1), .ref (a6 2), .int 0, .int 0])), ((a6 0), .inl (G.2.1.1, 4, .inl (fun _ => 0))), ((a6 1), .inl (G.2.1.1, 42, .inl (fun _ => 0))), ((a6 2), .inl (G.2.1.1, 4, .inl (upd (upd (upd (upd (fun _ => 0) 0 50) 1 50) 2 50) 3 50))), (q7, .inr (1, [.ref (a8 0), .ref (a8 1), .ref (a8 2), .int 0, .int 0])), ((a8 0), .inl (G.2.1.1, 4, .inl (fun _ => 0))), ((a8 1), .inl (G.2.1.1, 42, .inl (fun _ => 0))), ((a8 2), .inl (G.2.1.1, 4, .inl (upd (upd (upd (upd (fun _ => 0) 0 50) 1 50) 2 50) 3 50))), (q9, .inr (1, [.ref (a10 0), .ref (a10 1), .ref (a10 2), .int 0, .int 0])), ((a10 0), .inl (G.2.1.1, 4, .inl (fun _ => 0))), ((a10 1), .inl (G.2.1.1, 42, .inl (fun _ => 0))), ((a10 2), .inl (G.2.1.1, 4, .inl (upd (upd (upd (upd (fun _ => 0) 0 50) 1 50) 2 50) 3 50))), (q11, .inr (9, [.ref (a12 0), .ref (a12 1), .ref (a12 2), .ref (a12 3), .ref (a12 4)])), ((a12 0), .inl (G.2.1.2, 6, .inr (.inr (.inr (.inr (fun j => ([some (a12 5), some (a12 6), some (a12 7), some (a12 8), some (a12 9), some (a12 10)] : List (Option Nat)).getD j none)))))), ((a12 1), .inl (G.2.1.1, 16, .inl (upd (fun _ => 0) 0 1))), ((a12 2), .inl (G.2.1.1, 16, .inl (fun _ => 0))), ((a12 3), .inl (G.2.1.1, 16, .inl (fun _ => 0))), ((a12 4), .inl (G.2.1.1, 16, .inl (fun _ => 0))), ((a12 5), .inr (6, [])), ((a12 6), .inr (0, [])), ((a12 7), .inr (2, [])), ((a12 8), .inr (3, [])), ((a12 9), .inr (5, [])), ((a12 10), .inr (4, [])), (q13, .inl (G.2.1.1, 7, .inl (fun _ => 0))), (q14, .inl (G.2.1.1, 16, .inl (fun _ => 0)))]) (ref := RX11) (T := TX11) (N := 10) hC hK hH hin iB_X11 tyX11 tyX11_ok nmX11 10 7 0 rfl (by decide) wd_231 rfl rfl rfl rfl rfl rfl rfl (Nat.le_of_ble_eq_true rfl) dX11_init_84 rfl (fun H locs hH => ?_)
  refine lv_aload_n hx hb dX11_init_87 rfl (lv_at hl 0 rfl) ?_
  refine lv_bipush (v := 6) hx hb dX11_init_88 (by decide) ?_
  refine x_newI (n := 6) (N := 6) hC hK hH hA (by decide) (by decide) (by decide) (Nat.le_of_ble_eq_true rfl) (Nat.le_of_ble_eq_true rfl) dX11_init_90 (fun q15 H hH => ?_)
  replace hH : Hx G A [(b, .inr (10, [.ref q1, .ref q3, .ref q5, .ref q7, .ref q9, .ref q11, .ref q13, .ref q14, .null, .int 0])), (q1, .inr (7, [.ref (a2 0), .ref (a2 2), .int 0, .int 0])), ((a2 0), .inr (8, [.ref (a2 1), .int 0])), ((a2 1), .inl (G.2.1.1, 80, .inl (fun _ => 0))), ((a2 2), .inl (G.2.1.1, 7, .inl (fun _ => 0))), (q3, .inr (8, [.ref (a4 0), .int 0])), ((a4 0), .inl (G.2.1.1, 4, .inl (fun _ => 0))), (q5, .inr (1, [.ref (a6 0), .ref (a6 1), .ref (a6 2), .int 0, .int 0])), ((a6 0), .inl (G.2.1.1, 4, .inl (fun _ => 0))), ((a6 1), .inl (G.2.1.1, 42, .inl (fun _ => 0))), ((a6 2), .inl (G.2.1.1, 4, .inl (upd (upd (upd (upd (fun _ => 0) 0 50) 1 50) 2 50) 3 50))), (q7, .inr (1, [.ref (a8 0), .ref (a8 1), .ref (a8 2), .int 0, .int 0])), ((a8 0), .inl (G.2.1.1, 4, .inl (fun _ => 0))), ((a8 1), .inl (G.2.1.1, 42, .inl (fun _ => 0))), ((a8 2), .inl (G.2.1.1, 4, .inl (upd (upd (upd (upd (fun _ => 0) 0 50) 1 50) 2 50) 3 50))), (q9, .inr (1, [.ref (a10 0), .ref (a10 1), .ref (a10 2), .int 0, .int 0])), ((a10 0), .inl (G.2.1.1, 4, .inl (fun _ => 0))), ((a10 1), .inl (G.2.1.1, 42, .inl (fun _ => 0))), ((a10 2), .inl (G.2.1.1, 4, .inl (upd (upd (upd (upd (fun _ => 0) 0 50) 1 50) 2 50) 3 50))), (q11, .inr (9, [.ref (a12 0), .ref (a12 1), .ref (a12 2), .ref (a12 3), .ref (a12 4)])), ((a12 0), .inl (G.2.1.2, 6, .inr (.inr (.inr (.inr (fun j => ([some (a12 5), some (a12 6), some (a12 7), some (a12 8), some (a12 9), some (a12 10)] : List (Option Nat)).getD j none)))))), ((a12 1), .inl (G.2.1.1, 16, .inl (upd (fun _ => 0) 0 1))), ((a12 2), .inl (G.2.1.1, 16, .inl (fun _ => 0))), ((a12 3), .inl (G.2.1.1, 16, .inl (fun _ => 0))), ((a12 4), .inl (G.2.1.1, 16, .inl (fun _ => 0))), ((a12 5), .inr (6, [])), ((a12 6), .inr (0, [])), ((a12 7), .inr (2, [])), ((a12 8), .inr (3, [])), ((a12 9), .inr (5, [])), ((a12 10), .inr (4, [])), (q13, .inl (G.2.1.1, 7, .inl (fun _ => 0))), (q14, .inl (G.2.1.1, 16, .inl (fun _ => 0))), (q15, .inl (G.2.1.1, 6, .inl (fun _ => 0)))] sS.heap H _ := hH
  refine W.widen (k := 33) (n := 368) (Nat.le_of_ble_eq_true rfl) (Nat.le_of_ble_eq_true rfl) ?_
  refine x_putF (ws' := [(b, .inr (10, [.ref q1, .ref q3, .ref q5, .ref q7, .ref q9, .ref q11, .ref q13, .ref q14, .ref q15, .int 0])), (q1, .inr (7, [.ref (a2 0), .ref (a2 2), .int 0, .int 0])), ((a2 0), .inr (8, [.ref (a2 1), .int 0])), ((a2 1), .inl (G.2.1.1, 80, .inl (fun _ => 0))), ((a2 2), .inl (G.2.1.1, 7, .inl (fun _ => 0))), (q3, .inr (8, [.ref (a4 0), .int 0])), ((a4 0), .inl (G.2.1.1, 4, .inl (fun _ => 0))), (q5, .inr (1, [.ref (a6 0), .ref (a6 1), .ref (a6 2), .int 0, .int 0])), ((a6 0), .inl (G.2.1.1, 4, .inl (fun _ => 0))), ((a6 1), .inl (G.2.1.1, 42, .inl (fun _ => 0))), ((a6 2), .inl (G.2.1.1, 4, .inl (upd (upd (upd (upd (fun _ => 0) 0 50) 1 50) 2 50) 3 50))), (q7, .inr (1, [.ref (a8 0), .ref (a8 1), .ref (a8 2), .int 0, .int 0])), ((a8 0), .inl (G.2.1.1, 4, .inl (fun _ => 0))), ((a8 1), .inl (G.2.1.1, 42, .inl (fun _ => 0))), ((a8 2), .inl (G.2.1.1, 4, .inl (upd (upd (upd (upd (fun _ => 0) 0 50) 1 50) 2 50) 3 50))), (q9, .inr (1, [.ref (a10 0), .ref (a10 1), .ref (a10 2), .int 0, .int 0])), ((a10 0), .inl (G.2.1.1, 4, .inl (fun _ => 0))), ((a10 1), .inl (G.2.1.1, 42, .inl (fun _ => 0))), ((a10 2), .inl (G.2.1.1, 4, .inl (upd (upd (upd (upd (fun _ => 0) 0 50) 1 50) 2 50) 3 50))), (q11, .inr (9, [.ref (a12 0), .ref (a12 1), .ref (a12 2), .ref (a12 3), .ref (a12 4)])), ((a12 0), .inl (G.2.1.2, 6, .inr (.inr (.inr (.inr (fun j => ([some (a12 5), some (a12 6), some (a12 7), some (a12 8), some (a12 9), some (a12 10)] : List (Option Nat)).getD j none)))))), ((a12 1), .inl (G.2.1.1, 16, .inl (upd (fun _ => 0) 0 1))), ((a12 2), .inl (G.2.1.1, 16, .inl (fun _ => 0))), ((a12 3), .inl (G.2.1.1, 16, .inl (fun _ => 0))), ((a12 4), .inl (G.2.1.1, 16, .inl (fun _ => 0))), ((a12 5), .inr (6, [])), ((a12 6), .inr (0, [])), ((a12 7), .inr (2, [])), ((a12 8), .inr (3, [])), ((a12 9), .inr (5, [])), ((a12 10), .inr (4, [])), (q13, .inl (G.2.1.1, 7, .inl (fun _ => 0))), (q14, .inl (G.2.1.1, 16, .inl (fun _ => 0))), (q15, .inl (G.2.1.1, 6, .inl (fun _ => 0)))]) (ref := RX11) (T := TX11) (N := 10) hC hK hH hin iB_X11 tyX11 tyX11_ok nmX11 10 8 0 rfl (by decide) wd_232 rfl rfl rfl rfl rfl rfl rfl (Nat.le_of_ble_eq_true rfl) dX11_init_92 rfl (fun H locs hH => ?_)
  refine lv_aload_n hx hb dX11_init_95 rfl (lv_at hl 0 rfl) ?_
  refine lv_iconst (v := 0) hx hb dX11_init_96 (by decide) ?_
  refine pf_X11_55 (ws' := [(b, .inr (10, [.ref q1, .ref q3, .ref q5, .ref q7, .ref q9, .ref q11, .ref q13, .ref q14, .ref q15, .int 0])), (q1, .inr (7, [.ref (a2 0), .ref (a2 2), .int 0, .int 0])), ((a2 0), .inr (8, [.ref (a2 1), .int 0])), ((a2 1), .inl (G.2.1.1, 80, .inl (fun _ => 0))), ((a2 2), .inl (G.2.1.1, 7, .inl (fun _ => 0))), (q3, .inr (8, [.ref (a4 0), .int 0])), ((a4 0), .inl (G.2.1.1, 4, .inl (fun _ => 0))), (q5, .inr (1, [.ref (a6 0), .ref (a6 1), .ref (a6 2), .int 0, .int 0])), ((a6 0), .inl (G.2.1.1, 4, .inl (fun _ => 0))), ((a6 1), .inl (G.2.1.1, 42, .inl (fun _ => 0))), ((a6 2), .inl (G.2.1.1, 4, .inl (upd (upd (upd (upd (fun _ => 0) 0 50) 1 50) 2 50) 3 50))), (q7, .inr (1, [.ref (a8 0), .ref (a8 1), .ref (a8 2), .int 0, .int 0])), ((a8 0), .inl (G.2.1.1, 4, .inl (fun _ => 0))), ((a8 1), .inl (G.2.1.1, 42, .inl (fun _ => 0))), ((a8 2), .inl (G.2.1.1, 4, .inl (upd (upd (upd (upd (fun _ => 0) 0 50) 1 50) 2 50) 3 50))), (q9, .inr (1, [.ref (a10 0), .ref (a10 1), .ref (a10 2), .int 0, .int 0])), ((a10 0), .inl (G.2.1.1, 4, .inl (fun _ => 0))), ((a10 1), .inl (G.2.1.1, 42, .inl (fun _ => 0))), ((a10 2), .inl (G.2.1.1, 4, .inl (upd (upd (upd (upd (fun _ => 0) 0 50) 1 50) 2 50) 3 50))), (q11, .inr (9, [.ref (a12 0), .ref (a12 1), .ref (a12 2), .ref (a12 3), .ref (a12 4)])), ((a12 0), .inl (G.2.1.2, 6, .inr (.inr (.inr (.inr (fun j => ([some (a12 5), some (a12 6), some (a12 7), some (a12 8), some (a12 9), some (a12 10)] : List (Option Nat)).getD j none)))))), ((a12 1), .inl (G.2.1.1, 16, .inl (upd (fun _ => 0) 0 1))), ((a12 2), .inl (G.2.1.1, 16, .inl (fun _ => 0))), ((a12 3), .inl (G.2.1.1, 16, .inl (fun _ => 0))), ((a12 4), .inl (G.2.1.1, 16, .inl (fun _ => 0))), ((a12 5), .inr (6, [])), ((a12 6), .inr (0, [])), ((a12 7), .inr (2, [])), ((a12 8), .inr (3, [])), ((a12 9), .inr (5, [])), ((a12 10), .inr (4, [])), (q13, .inl (G.2.1.1, 7, .inl (fun _ => 0))), (q14, .inl (G.2.1.1, 16, .inl (fun _ => 0))), (q15, .inl (G.2.1.1, 6, .inl (fun _ => 0)))]) hC hK hH 0 rfl rfl rfl (Nat.le_of_ble_eq_true rfl) dX11_init_97 rfl (fun H locs hH => ?_)
  replace hH : Hx G A [(b, .inr (10, [.ref q1, .ref q3, .ref q5, .ref q7, .ref q9, .ref q11, .ref q13, .ref q14, .ref q15, .int 0])), ((a2 0), .inr (8, [.ref (a2 1), .int 0])), ((a2 1), .inl (G.2.1.1, 80, .inl (fun _ => 0))), (q3, .inr (8, [.ref (a4 0), .int 0])), ((a4 0), .inl (G.2.1.1, 4, .inl (fun _ => 0))), (q1, .inr (7, [.ref (a2 0), .ref (a2 2), .int 0, .int 0])), ((a2 2), .inl (G.2.1.1, 7, .inl (fun _ => 0))), (q5, .inr (1, [.ref (a6 0), .ref (a6 1), .ref (a6 2), .int 0, .int 0])), ((a6 0), .inl (G.2.1.1, 4, .inl (fun _ => 0))), ((a6 1), .inl (G.2.1.1, 42, .inl (fun _ => 0))), ((a6 2), .inl (G.2.1.1, 4, .inl (upd (upd (upd (upd (fun _ => 0) 0 50) 1 50) 2 50) 3 50))), (q7, .inr (1, [.ref (a8 0), .ref (a8 1), .ref (a8 2), .int 0, .int 0])), ((a8 0), .inl (G.2.1.1, 4, .inl (fun _ => 0))), ((a8 1), .inl (G.2.1.1, 42, .inl (fun _ => 0))), ((a8 2), .inl (G.2.1.1, 4, .inl (upd (upd (upd (upd (fun _ => 0) 0 50) 1 50) 2 50) 3 50))), (q9, .inr (1, [.ref (a10 0), .ref (a10 1), .ref (a10 2), .int 0, .int 0])), ((a10 0), .inl (G.2.1.1, 4, .inl (fun _ => 0))), ((a10 1), .inl (G.2.1.1, 42, .inl (fun _ => 0))), ((a10 2), .inl (G.2.1.1, 4, .inl (upd (upd (upd (upd (fun _ => 0) 0 50) 1 50) 2 50) 3 50))), (q11, .inr (9, [.ref (a12 0), .ref (a12 1), .ref (a12 2), .ref (a12 3), .ref (a12 4)])), ((a12 0), .inl (G.2.1.2, 6, .inr (.inr (.inr (.inr (fun j => ([some (a12 5), some (a12 6), some (a12 7), some (a12 8), some (a12 9), some (a12 10)] : List (Option Nat)).getD j none)))))), ((a12 1), .inl (G.2.1.1, 16, .inl (upd (fun _ => 0) 0 1))), ((a12 2), .inl (G.2.1.1, 16, .inl (fun _ => 0))), ((a12 3), .inl (G.2.1.1, 16, .inl (fun _ => 0))), ((a12 4), .inl (G.2.1.1, 16, .inl (fun _ => 0))), ((a12 5), .inr (6, [])), ((a12 6), .inr (0, [])), ((a12 7), .inr (2, [])), ((a12 8), .inr (3, [])), ((a12 9), .inr (5, [])), ((a12 10), .inr (4, [])), (q13, .inl (G.2.1.1, 7, .inl (fun _ => 0))), (q14, .inl (G.2.1.1, 16, .inl (fun _ => 0))), (q15, .inl (G.2.1.1, 6, .inl (fun _ => 0)))] sS.heap H locs := hx_sub hH [0, 2, 3, 5, 6, 1, 4, 7, 8, 9, 10, 11, 12, 13, 14, 15, 16, 17, 18, 19, 20, 21, 22, 23, 24, 25, 26, 27, 28, 29, 30, 31, 32, 33] (by decide) rfl
  exact x_nret hC hr hkL (fun k => ([(a2 0), (a2 1), q3, (a4 0), q1, (a2 2), q5, (a6 0), (a6 1), (a6 2), q7, (a8 0), (a8 1), (a8 2), q9, (a10 0), (a10 1), (a10 2), q11, (a12 0), (a12 1), (a12 2), (a12 3), (a12 4), (a12 5), (a12 6), (a12 7), (a12 8), (a12 9), (a12 10), q13, q14, q15] : List Nat).getD k 0) hH rfl dX11_init_100
set_option maxHeartbeats 4000000 in
set_option maxRecDepth 100000 in
theorem n_X12 (l : Launch) (G : GP) (b : Nat) : CN l G yX12_init cX12_init 2 1 7 254 [.ref b] [(b, .inr (11, [.null, .null, .null, .null, .int 0, .null, .null, .int 0, .int 0, .int 0, .int 0, .int 0, .int 0, .null, .int 0]))] (fun ad => WM G (acons b ad) sM0) := by
  refine x_methN "BetsOnBetsModel" rfl (by decide +kernel) rfl (Nat.le_of_ble_eq_true rfl) ?_
  intro pP eE sS mM args below meth cC A ls hC hr hkL hin hK hZ hA hH hl
  have hx := hC.1
  have hb := hC.2.1
  have hl : lv_has ls 2 [(0, .ref b)] := hl
  refine lv_aload_n hx hb dX12_init_0 rfl (lv_at hl 0 rfl) ?_
  refine x_objI (rest := []) hC hl.1 wd_764 (Nat.le_of_ble_eq_true rfl) (Nat.le_of_ble_eq_true rfl) (Nat.le_of_ble_eq_true rfl) dX12_init_1 ?_
  refine lv_aload_n hx hb dX12_init_4 rfl (lv_at hl 0 rfl) ?_
  refine lv_bipush (v := 7) hx hb dX12_init_5 (by decide) ?_
  refine x_newI (n := 7) (N := 7) hC hK hH hA (by decide) (by decide) (by decide) (Nat.le_of_ble_eq_true rfl) (Nat.le_of_ble_eq_true rfl) dX12_init_7 (fun q1 H hH => ?_)
  replace hH : Hx G A [(b, .inr (11, [.null, .null, .null, .null, .int 0, .null, .null, .int 0, .int 0, .int 0, .int 0, .int 0, .int 0, .null, .int 0])), (q1, .inl (G.2.1.1, 7, .inl (fun _ => 0)))] sS.heap H _ := hH
  refine W.widen (k := 1) (n := 7) (Nat.le_of_ble_eq_true rfl) (Nat.le_of_ble_eq_true rfl) ?_
  refine x_putF (ws' := [(b, .inr (11, [.ref q1, .null, .null, .null, .int 0, .null, .null, .int 0, .int 0, .int 0, .int 0, .int 0, .int 0, .null, .int 0])), (q1, .inl (G.2.1.1, 7, .inl (fun _ => 0)))]) (ref := RX12) (T := TX12) (N := 15) hC hK hH hin iB_X12 tyX12 tyX12_ok nmX12 11 0 0 rfl (by decide) wd_765 rfl rfl rfl rfl rfl rfl rfl (Nat.le_of_ble_eq_true rfl) dX12_init_9 rfl (fun H locs hH => ?_)
  refine lv_aload_n hx hb dX12_init_12 rfl (lv_at hl 0 rfl) ?_
  refine lv_bipush (v := 52) hx hb dX12_init_13 (by decide) ?_
  refine x_newI (n := 52) (N := 52) hC hK hH hA (by decide) (by decide) (by decide) (Nat.le_of_ble_eq_true rfl) (Nat.le_of_ble_eq_true rfl) dX12_init_15 (fun q2 H hH => ?_)
  replace hH : Hx G A [(b, .inr (11, [.ref q1, .null, .null, .null, .int 0, .null, .null, .int 0, .int 0, .int 0, .int 0, .int 0, .int 0, .null, .int 0])), (q1, .inl (G.2.1.1, 7, .inl (fun _ => 0))), (q2, .inl (G.2.1.1, 52, .inl (fun _ => 0)))] sS.heap H _ := hH
  refine W.widen (k := 2) (n := 59) (Nat.le_of_ble_eq_true rfl) (Nat.le_of_ble_eq_true rfl) ?_
  refine x_putF (ws' := [(b, .inr (11, [.ref q1, .ref q2, .null, .null, .int 0, .null, .null, .int 0, .int 0, .int 0, .int 0, .int 0, .int 0, .null, .int 0])), (q1, .inl (G.2.1.1, 7, .inl (fun _ => 0))), (q2, .inl (G.2.1.1, 52, .inl (fun _ => 0)))]) (ref := RX12) (T := TX12) (N := 15) hC hK hH hin iB_X12 tyX12 tyX12_ok nmX12 11 1 0 rfl (by decide) wd_766 rfl rfl rfl rfl rfl rfl rfl (Nat.le_of_ble_eq_true rfl) dX12_init_17 rfl (fun H locs hH => ?_)
  refine lv_aload_n hx hb dX12_init_20 rfl (lv_at hl 0 rfl) ?_
  refine lv_bipush (v := 52) hx hb dX12_init_21 (by decide) ?_
  refine x_newI (n := 52) (N := 52) hC hK hH hA (by decide) (by decide) (by decide) (Nat.le_of_ble_eq_true rfl) (Nat.le_of_ble_eq_true rfl) dX12_init_23 (fun q3 H hH => ?_)
  replace hH : Hx G A [(b, .inr (11, [.ref q1, .ref q2, .null, .null, .int 0, .null, .null, .int 0, .int 0, .int 0, .int 0, .int 0, .int 0, .null, .int 0])), (q1, .inl (G.2.1.1, 7, .inl (fun _ => 0))), (q2, .inl (G.2.1.1, 52, .inl (fun _ => 0))), (q3, .inl (G.2.1.1, 52, .inl (fun _ => 0)))] sS.heap H _ := hH
  refine W.widen (k := 3) (n := 111) (Nat.le_of_ble_eq_true rfl) (Nat.le_of_ble_eq_true rfl) ?_
  refine x_putF (ws' := [(b, .inr (11, [.ref q1, .ref q2, .ref q3, .null, .int 0, .null, .null, .int 0, .int 0, .int 0, .int 0, .int 0, .int 0, .null, .int 0])), (q1, .inl (G.2.1.1, 7, .inl (fun _ => 0))), (q2, .inl (G.2.1.1, 52, .inl (fun _ => 0))), (q3, .inl (G.2.1.1, 52, .inl (fun _ => 0)))]) (ref := RX12) (T := TX12) (N := 15) hC hK hH hin iB_X12 tyX12 tyX12_ok nmX12 11 2 0 rfl (by decide) wd_767 rfl rfl rfl rfl rfl rfl rfl (Nat.le_of_ble_eq_true rfl) dX12_init_25 rfl (fun H locs hH => ?_)
  refine lv_aload_n hx hb dX12_init_28 rfl (lv_at hl 0 rfl) ?_
  refine lv_bipush (v := 52) hx hb dX12_init_29 (by decide) ?_
  refine x_newI (n := 52) (N := 52) hC hK hH hA (by decide) (by decide) (by decide) (Nat.le_of_ble_eq_true rfl) (Nat.le_of_ble_eq_true rfl) dX12_init_31 (fun q4 H hH => ?_)
  replace hH : Hx G A [(b, .inr (11, [.ref q1, .ref q2, .ref q3, .null, .int 0, .null, .null, .int 0, .int 0, .int 0, .int 0, .int 0, .int 0, .null, .int 0])), (q1, .inl (G.2.1.1, 7, .inl (fun _ => 0))), (q2, .inl (G.2.1.1, 52, .inl (fun _ => 0))), (q3, .inl (G.2.1.1, 52, .inl (fun _ => 0))), (q4, .inl (G.2.1.1, 52, .inl (fun _ => 0)))] sS.heap H _ := hH
  refine W.widen (k := 4) (n := 163) (Nat.le_of_ble_eq_true rfl) (Nat.le_of_ble_eq_true rfl) ?_
  refine x_putF (ws' := [(b, .inr (11, [.ref q1, .ref q2, .ref q3, .ref q4, .int 0, .null, .null, .int 0, .int 0, .int 0, .int 0, .int 0, .int 0, .null, .int 0])), (q1, .inl (G.2.1.1, 7, .inl (fun _ => 0))), (q2, .inl (G.2.1.1, 52, .inl (fun _ => 0))), (q3, .inl (G.2.1.1, 52, .inl (fun _ => 0))), (q4, .inl (G.2.1.1, 52, .inl (fun _ => 0)))]) (ref := RX12) (T := TX12) (N := 15) hC hK hH hin iB_X12 tyX12 tyX12_ok nmX12 11 3 0 rfl (by decide) wd_768 rfl rfl rfl rfl rfl rfl rfl (Nat.le_of_ble_eq_true rfl) dX12_init_33 rfl (fun H locs hH => ?_)
  refine lv_aload_n hx hb dX12_init_36 rfl (lv_at hl 0 rfl) ?_
  refine lv_bipush (v := 80) hx hb dX12_init_37 (by decide) ?_
  refine x_newI (n := 80) (N := 80) hC hK hH hA (by decide) (by decide) (by decide) (Nat.le_of_ble_eq_true rfl) (Nat.le_of_ble_eq_true rfl) dX12_init_39 (fun q5 H hH => ?_)
  replace hH : Hx G A [(b, .inr (11, [.ref q1, .ref q2, .ref q3, .ref q4, .int 0, .null, .null, .int 0, .int 0, .int 0, .int 0, .int 0, .int 0, .null, .int 0])), (q1, .inl (G.2.1.1, 7, .inl (fun _ => 0))), (q2, .inl (G.2.1.1, 52, .inl (fun _ => 0))), (q3, .inl (G.2.1.1, 52, .inl (fun _ => 0))), (q4, .inl (G.2.1.1, 52, .inl (fun _ => 0))), (q5, .inl (G.2.1.1, 80, .inl (fun _ => 0)))] sS.heap H _ := hH
  refine W.widen (k := 5) (n := 243) (Nat.le_of_ble_eq_true rfl) (Nat.le_of_ble_eq_true rfl) ?_
  refine x_putF (ws' := [(b, .inr (11, [.ref q1, .ref q2, .ref q3, .ref q4, .int 0, .ref q5, .null, .int 0, .int 0, .int 0, .int 0, .int 0, .int 0, .null, .int 0])), (q1, .inl (G.2.1.1, 7, .inl (fun _ => 0))), (q2, .inl (G.2.1.1, 52, .inl (fun _ => 0))), (q3, .inl (G.2.1.1, 52, .inl (fun _ => 0))), (q4, .inl (G.2.1.1, 52, .inl (fun _ => 0))), (q5, .inl (G.2.1.1, 80, .inl (fun _ => 0)))]) (ref := RX12) (T := TX12) (N := 15) hC hK hH hin iB_X12 tyX12 tyX12_ok nmX12 11 5 0 rfl (by decide) wd_770 rfl rfl rfl rfl rfl rfl rfl (Nat.le_of_ble_eq_true rfl) dX12_init_41 rfl (fun H locs hH => ?_)
  refine lv_aload_n hx hb dX12_init_44 rfl (lv_at hl 0 rfl) ?_
  refine lv_bipush (v := 7) hx hb dX12_init_45 (by decide) ?_
  refine x_newI (n := 7) (N := 7) hC hK hH hA (by decide) (by decide) (by decide) (Nat.le_of_ble_eq_true rfl) (Nat.le_of_ble_eq_true rfl) dX12_init_47 (fun q6 H hH => ?_)
  replace hH : Hx G A [(b, .inr (11, [.ref q1, .ref q2, .ref q3, .ref q4, .int 0, .ref q5, .null, .int 0, .int 0, .int 0, .int 0, .int 0, .int 0, .null, .int 0])), (q1, .inl (G.2.1.1, 7, .inl (fun _ => 0))), (q2, .inl (G.2.1.1, 52, .inl (fun _ => 0))), (q3, .inl (G.2.1.1, 52, .inl (fun _ => 0))), (q4, .inl (G.2.1.1, 52, .inl (fun _ => 0))), (q5, .inl (G.2.1.1, 80, .inl (fun _ => 0))), (q6, .inl (G.2.1.1, 7, .inl (fun _ => 0)))] sS.heap H _ := hH
  refine W.widen (k := 6) (n := 250) (Nat.le_of_ble_eq_true rfl) (Nat.le_of_ble_eq_true rfl) ?_
  refine x_putF (ws' := [(b, .inr (11, [.ref q1, .ref q2, .ref q3, .ref q4, .int 0, .ref q5, .ref q6, .int 0, .int 0, .int 0, .int 0, .int 0, .int 0, .null, .int 0])), (q1, .inl (G.2.1.1, 7, .inl (fun _ => 0))), (q2, .inl (G.2.1.1, 52, .inl (fun _ => 0))), (q3, .inl (G.2.1.1, 52, .inl (fun _ => 0))), (q4, .inl (G.2.1.1, 52, .inl (fun _ => 0))), (q5, .inl (G.2.1.1, 80, .inl (fun _ => 0))), (q6, .inl (G.2.1.1, 7, .inl (fun _ => 0)))]) (ref := RX12) (T := TX12) (N := 15) hC hK hH hin iB_X12 tyX12 tyX12_ok nmX12 11 6 0 rfl (by decide) wd_771 rfl rfl rfl rfl rfl rfl rfl (Nat.le_of_ble_eq_true rfl) dX12_init_49 rfl (fun H locs hH => ?_)
  refine lv_aload_n hx hb dX12_init_52 rfl (lv_at hl 0 rfl) ?_
  refine lv_iconst (v := 4) hx hb dX12_init_53 (by decide) ?_
  refine x_newI (n := 4) (N := 4) hC hK hH hA (by decide) (by decide) (by decide) (Nat.le_of_ble_eq_true rfl) (Nat.le_of_ble_eq_true rfl) dX12_init_54 (fun q7 H hH => ?_)
  replace hH : Hx G A [(b, .inr (11, [.ref q1, .ref q2, .ref q3, .ref q4, .int 0, .ref q5, .ref q6, .int 0, .int 0, .int 0, .int 0, .int 0, .int 0, .null, .int 0])), (q1, .inl (G.2.1.1, 7, .inl (fun _ => 0))), (q2, .inl (G.2.1.1, 52, .inl (fun _ => 0))), (q3, .inl (G.2.1.1, 52, .inl (fun _ => 0))), (q4, .inl (G.2.1.1, 52, .inl (fun _ => 0))), (q5, .inl (G.2.1.1, 80, .inl (fun _ => 0))), (q6, .inl (G.2.1.1, 7, .inl (fun _ => 0))), (q7, .inl (G.2.1.1, 4, .inl (fun _ => 0)))] sS.heap H _ := hH
  refine W.widen (k := 7) (n := 254) (Nat.le_of_ble_eq_true rfl) (Nat.le_of_ble_eq_true rfl) ?_
  refine x_putF (ws' := [(b, .inr (11, [.ref q1, .ref q2, .ref q3, .ref q4, .int 0, .ref q5, .ref q6, .int 0, .int 0, .int 0, .int 0, .int 0, .int 0, .ref q7, .int 0])), (q1, .inl (G.2.1.1, 7, .inl (fun _ => 0))), (q2, .inl (G.2.1.1, 52, .inl (fun _ => 0))), (q3, .inl (G.2.1.1, 52, .inl (fun _ => 0))), (q4, .inl (G.2.1.1, 52, .inl (fun _ => 0))), (q5, .inl (G.2.1.1, 80, .inl (fun _ => 0))), (q6, .inl (G.2.1.1, 7, .inl (fun _ => 0))), (q7, .inl (G.2.1.1, 4, .inl (fun _ => 0)))]) (ref := RX12) (T := TX12) (N := 15) hC hK hH hin iB_X12 tyX12 tyX12_ok nmX12 11 13 0 rfl (by decide) wd_778 rfl rfl rfl rfl rfl rfl rfl (Nat.le_of_ble_eq_true rfl) dX12_init_56 rfl (fun H locs hH => ?_)
  refine lv_iconst (v := 0) hx hb dX12_init_59 (by decide) ?_
  refine lv_istore_n (lv' := [(1, .int 0), (0, .ref b)]) hx hb dX12_init_60 rfl hl (by decide) rfl (fun ls hl => ?_)
  refine lv_iload_n hx hb dX12_init_61 rfl (lv_at hl 0 rfl) ?_
  refine lv_iconst (v := 4) hx hb dX12_init_62 (by decide) ?_
  refine lv_icmp_ge (tgt := 83) hx hb dX12_init_63 (by decide) (fun c_ => ?_) (fun c_ => ?_)
  · exact absurd c_ (by decide)
  refine lv_aload_n hx hb dX12_init_66 rfl (lv_at hl 1 rfl) ?_
  refine gf_X12_13 (v := .ref q2) hC hK hH 0 rfl rfl dX12_init_67 ?_
  refine lv_bipush (v := 6) hx hb dX12_init_70 (by decide) ?_
  refine lv_iload_n hx hb dX12_init_72 rfl (lv_at hl 0 rfl) ?_
  refine lv_iadd hx hb dX12_init_73 ?_
  refine x_topE (y := 6) (by decide) ?_
  refine lv_bipush (v := 50) hx hb dX12_init_74 (by decide) ?_
  refine x_iasN (f := (fun _ => 0)) (ws' := [(b, .inr (11, [.ref q1, .ref q2, .ref q3, .ref q4, .int 0, .ref q5, .ref q6, .int 0, .int 0, .int 0, .int 0, .int 0, .int 0, .ref q7, .int 0])), (q1, .inl (G.2.1.1, 7, .inl (fun _ => 0))), (q2, .inl (G.2.1.1, 52, .inl (upd (fun _ => 0) 6 50))), (q3, .inl (G.2.1.1, 52, .inl (fun _ => 0))), (q4, .inl (G.2.1.1, 52, .inl (fun _ => 0))), (q5, .inl (G.2.1.1, 80, .inl (fun _ => 0))), (q6, .inl (G.2.1.1, 7, .inl (fun _ => 0))), (q7, .inl (G.2.1.1, 4, .inl (fun _ => 0)))]) hC hK hH 2 6 rfl rfl (by decide) (by decide) dX12_init_76 rfl (fun H locs hH => ?_)
  refine lv_iinc (v := 1) (lv' := [(1, .int 1), (0, .ref b)]) hx hb dX12_init_77 hl (k := 0) rfl (by decide) (by decide) rfl (fun ls hl => ?_)
  refine lv_goto (tgt := 61) hx hb dX12_init_80 (by decide) ?_
  refine lv_iload_n hx hb dX12_init_61 rfl (lv_at hl 0 rfl) ?_
  refine lv_iconst (v := 4) hx hb dX12_init_62 (by decide) ?_
  refine lv_icmp_ge (tgt := 83) hx hb dX12_init_63 (by decide) (fun c_ => ?_) (fun c_ => ?_)
  · exact absurd c_ (by decide)
  refine lv_aload_n hx hb dX12_init_66 rfl (lv_at hl 1 rfl) ?_
  refine gf_X12_13 (v := .ref q2) hC hK hH 0 rfl rfl dX12_init_67 ?_
  refine lv_bipush (v := 6) hx hb dX12_init_70 (by decide) ?_
  refine lv_iload_n hx hb dX12_init_72 rfl (lv_at hl 0 rfl) ?_
  refine lv_iadd hx hb dX12_init_73 ?_
  refine x_topE (y := 7) (by decide) ?_
  refine lv_bipush (v := 50) hx hb dX12_init_74 (by decide) ?_
  refine x_iasN (f := (upd (fun _ => 0) 6 50)) (ws' := [(b, .inr (11, [.ref q1, .ref q2, .ref q3, .ref q4, .int 0, .ref q5, .ref q6, .int 0, .int 0, .int 0, .int 0, .int 0, .int 0, .ref q7, .int 0])), (q1, .inl (G.2.1.1, 7, .inl (fun _ => 0))), (q2, .inl (G.2.1.1, 52, .inl (upd (upd (fun _ => 0) 6 50) 7 50))), (q3, .inl (G.2.1.1, 52, .inl (fun _ => 0))), (q4, .inl (G.2.1.1, 52, .inl (fun _ => 0))), (q5, .inl (G.2.1.1, 80, .inl (fun _ => 0))), (q6, .inl (G.2.1.1, 7, .inl (fun _ => 0))), (q7, .inl (G.2.1.1, 4, .inl (fun _ => 0)))]) hC hK hH 2 7 rfl rfl (by decide) (by decide) dX12_init_76 rfl (fun H locs hH => ?_)
  refine lv_iinc (v := 2) (lv' := [(1, .int 2), (0, .ref b)]) hx hb dX12_init_77 hl (k := 0) rfl (by decide) (by decide) rfl (fun ls hl => ?_)
  refine lv_goto (tgt := 61) hx hb dX12_init_80 (by decide) ?_
  refine lv_iload_n hx hb dX12_init_61 rfl (lv_at hl 0 rfl) ?_
  refine lv_iconst (v := 4) hx hb dX12_init_62 (by decide) ?_
  refine lv_icmp_ge (tgt := 83) hx hb dX12_init_63 (by decide) (fun c_ => ?_) (fun c_ => ?_)
  · exact absurd c_ (by decide)
  refine lv_aload_n hx hb dX12_init_66 rfl (lv_at hl 1 rfl) ?_
  refine gf_X12_13 (v := .ref q2) hC hK hH 0 rfl rfl dX12_init_67 ?_
  refine lv_bipush (v := 6) hx hb dX12_init_70 (by decide) ?_
  refine lv_iload_n hx hb dX12_init_72 rfl (lv_at hl 0 rfl) ?_
  refine lv_iadd hx hb dX12_init_73 ?_
  refine x_topE (y := 8) (by decide) ?_
  refine lv_bipush (v := 50) hx hb dX12_init_74 (by decide) ?_
  refine x_iasN (f := (upd (upd (fun _ => 0) 6 50) 7 50)) (ws' := [(b, .inr (11, [.ref q1, .ref q2, .ref q3, .ref q4, .int 0, .ref q5, .ref q6, .int 0, .int 0, .int 0, .int 0, .int 0, .int 0, .ref q7, .int 0])), (q1, .inl (G.2.1.1, 7, .inl (fun _ => 0))), (q2, .inl (G.2.1.1, 52, .inl (upd (upd (upd (fun _ => 0) 6 50) 7 50) 8 50))), (q3, .inl (G.2.1.1, 52, .inl (fun _ => 0))), (q4, .inl (G.2.1.1, 52, .inl (fun _ => 0))), (q5, .inl (G.2.1.1, 80, .inl (fun _ => 0))), (q6, .inl (G.2.1.1, 7, .inl (fun _ => 0))), (q7, .inl (G.2.1.1, 4, .inl (fun _ => 0)))]) hC hK hH 2 8 rfl rfl (by decide) (by decide) dX12_init_76 rfl (fun H locs hH => ?_)
  refine lv_iinc (v := 3) (lv' := [(1, .int 3), (0, .ref b)]) hx hb dX12_init_77 hl (k := 0) rfl (by decide) (by decide) rfl (fun ls hl => ?_)
  refine lv_goto (tgt := 61) hx hb dX12_init_80 (by decide) ?_
  refine lv_iload_n hx hb dX12_init_61 rfl (lv_at hl 0 rfl) ?_
  refine lv_iconst (v := 4) hx hb dX12_init_62 (by decide) ?_
  refine lv_icmp_ge (tgt := 83) hx hb dX12_init_63 (by decide) (fun c_ => ?_) (fun c_ => ?_)
  · exact absurd c_ (by decide)
  refine lv_aload_n hx hb dX12_init_66 rfl (lv_at hl 1 rfl) ?_
  refine gf_X12_13 (v := .ref q2) hC hK hH 0 rfl rfl dX12_init_67 ?_
  refine lv_bipush (v := 6) hx hb dX12_init_70 (by decide) ?_
  refine lv_iload_n hx hb dX12_init_72 rfl (lv_at hl 0 rfl) ?_
  refine lv_iadd hx hb dX12_init_73 ?_
  refine x_topE (y := 9) (by decide) ?_
  refine lv_bipush (v := 50) hx hb dX12_init_74 (by decide) ?_
  refine x_iasN (f := (upd (upd (upd (fun _ => 0) 6 50) 7 50) 8 50)) (ws' := [(b, .inr (11, [.ref q1, .ref q2, .ref q3, .ref q4, .int 0, .ref q5, .ref q6, .int 0, .int 0, .int 0, .int 0, .int 0, .int 0, .ref q7, .int 0])), (q1, .inl (G.2.1.1, 7, .inl (fun _ => 0))), (q2, .inl (G.2.1.1, 52, .inl (upd (upd (upd (upd (fun _ => 0) 6 50) 7 50) 8 50) 9 50))), (q3, .inl (G.2.1.1, 52, .inl (fun _ => 0))), (q4, .inl (G.2.1.1, 52, .inl (fun _ => 0))), (q5, .inl (G.2.1.1, 80, .inl (fun _ => 0))), (q6, .inl (G.2.1.1, 7, .inl (fun _ => 0))), (q7, .inl (G.2.1.1, 4, .inl (fun _ => 0)))]) hC hK hH 2 9 rfl rfl (by decide) (by decide) dX12_init_76 rfl (fun H locs hH => ?_)
  refine lv_iinc (v := 4) (lv' := [(1, .int 4), (0, .ref b)]) hx hb dX12_init_77 hl (k := 0) rfl (by decide) (by decide) rfl (fun ls hl => ?_)
  refine lv_goto (tgt := 61) hx hb dX12_init_80 (by decide) ?_
  refine lv_iload_n hx hb dX12_init_61 rfl (lv_at hl 0 rfl) ?_
  refine lv_iconst (v := 4) hx hb dX12_init_62 (by decide) ?_
  refine lv_icmp_ge (tgt := 83) hx hb dX12_init_63 (by decide) (fun c_ => ?_) (fun c_ => ?_)
  rotate_left
  · exact absurd c_ (by decide)
  exact x_nret hC hr hkL (fun k => ([q1, q2, q3, q4, q5, q6, q7] : List Nat).getD k 0) hH rfl dX12_init_83
