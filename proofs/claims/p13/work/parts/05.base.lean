-- ===== the frame of every contract here: one list of words (GL), one bundle of nest words (nst), readers (the heap stays) and writers (cells keep their addresses) =====
abbrev gw (y : MethodName) (c : ByteArray) (n : Nat) (r : Option FieldType) : List Cond := Cond.code y c n r :: GL
theorem gl_good {w : Cond} (h : w ∈ GL) : (w.onTables && w.keeps) = true ∨ ∃ ty, w = .arrayClass ty := good_of_word (List.mem_filter.mp h).2
theorem gw_good {y : MethodName} {c : ByteArray} {n : Nat} {r : Option FieldType} (h : Cond.code y c n r ∈ GL) : GoodIn GL (gw y c n r) := fun w hw => by
  rcases List.mem_cons.mp hw with rfl | hw
  · exact ⟨h, gl_good h⟩
  · exact ⟨hw, gl_good hw⟩
def isNest : Cond → Bool
  | .methodLinkNest .. => true
  | .fieldLinkNest .. => true
  | _ => false
theorem nwl_nest : ∀ w ∈ nwl, isNest w = true := by decide +kernel
theorem nwl_tab : ∀ w ∈ nwl, w.onTables = true := by decide +kernel
/-- the words on the nest's own links, at a state -/
def nst (U : State) : Prop := ∀ w ∈ nwl, va_Nw w U
theorem nst_warm {s U : State} (hW : s.WarmedH U.vm) (h : nst s) : nst U := by
  intro w hw
  have h1 := nwl_nest w hw
  have h2 := h w hw
  cases w <;> first | exact va_Nw.warmM hW h2 | exact va_Nw.warmF hW h2 | (simp [isNest] at h1; done)
theorem nst_same {s U : State} (hv : s.vm = U.vm) (h : nst s) : nst U := fun w hw => va_Nw.same (nwl_tab w hw) hv (h w hw)
abbrev tyG (cI cZ : ClassId) : List (ClassId × FieldType) := [(cI, .int), (cZ, .boolean)]
/-- a reader's start -/
def rPc (D : va_G) (cI cZ : ClassId) (av : List Value) (ws : va_W) : Array Value → State → Prop := fun v U => v = av.toArray ∧ va_P D vwCl ws U.heap ∧ va_K D vwCl (tyG cI cZ) U ∧ nst U
/-- a reader's end: the answer is v, the heap is as it was -/
def rQ (v : Int32) : Array Value → State → Outcome → State → Prop := vp_Si (fun r => r = v)
theorem rPc_blind {D : va_G} {cI cZ : ClassId} {av : List Value} {ws : va_W} : FrameBlind (rPc D cI cZ av ws) := fun a U g mk q => by
  obtain ⟨q0, qP, qK, qN⟩ := q
  exact ⟨q0, qP, va_K.moved (u := U) (U := U.calling g mk a) (Vm.Alike.refl U.vm) qK, nst_same (s := U) (U := U.calling g mk a) rfl qN⟩
/-- a writer's start: the cells are apart -/
def wPc (D : va_G) (cI cZ : ClassId) (av : List Value) (ws : va_W) : Array Value → State → Prop := fun v U => v = av.toArray ∧ va_P D vwCl ws U.heap ∧ va_K D vwCl (tyG cI cZ) U ∧ nst U ∧ va_D (fun _ => True) ws
theorem wPc_blind {D : va_G} {cI cZ : ClassId} {av : List Value} {ws : va_W} : FrameBlind (wPc D cI cZ av ws) := fun a U g mk q => by
  obtain ⟨q0, qP, qK, qN, qD⟩ := q
  exact ⟨q0, qP, va_K.moved (u := U) (U := U.calling g mk a) (Vm.Alike.refl U.vm) qK, nst_same (s := U) (U := U.calling g mk a) rfl qN, qD⟩
def aw (ws : va_W) : Nat → Prop := fun q => ∃ (k : Nat) (e : va_E), ws[k]? = some (q, e)
/-- a writer's end: the answer, the cells behind it, all else as it was -/
def wQ (D : va_G) (rv : Option Value) (wc wc' : va_W) : Array Value → State → Outcome → State → Prop := fun _ st oc t => oc = .returned rv ∧ va_P D vwCl wc' t.heap ∧ va_F (aw wc) st t
/-- cells put back at their places -/
def putAt : va_W → List Nat → va_W → va_W
  | ws, i :: is, c :: cs => putAt (ws.set i c) is cs
  | ws, _, _ => ws
theorem putAt_get : ∀ (isC : List Nat) (ws wc' : va_W) (k : Nat) (q : Nat × va_E), (putAt ws isC wc')[k]? = some q → isC.length = wc'.length → (∃ j : Nat, wc'[j]? = some q) ∨ (ws[k]? = some q ∧ k ∉ isC)
  | [], ws, wc', k, q, h, hl => Or.inr ⟨by cases wc' <;> exact h, List.not_mem_nil⟩
  | i :: is, ws, [], k, q, h, hl => by simp at hl
  | i :: is, ws, c :: cs, k, q, h, hl => by
    have h1 := putAt_get is (ws.set i c) cs k q h (by simpa using hl)
    rcases h1 with ⟨j, hj⟩ | ⟨h2, h3⟩
    · exact Or.inl ⟨j + 1, hj⟩
    · by_cases hk : k = i
      · subst hk
        rw [List.getElem?_set] at h2
        by_cases hlt : k < ws.length
        · rw [if_pos rfl, if_pos hlt] at h2
          exact Or.inl ⟨0, h2⟩
        · rw [if_pos rfl, if_neg hlt] at h2
          cases h2
      · rw [List.getElem?_set, if_neg (fun z => hk z.symm)] at h2
        exact Or.inr ⟨h2, fun z => by rcases List.mem_cons.mp z with z | z; exact hk z; exact h3 z⟩
theorem va_D.adr {A : Nat → Prop} {ws ws' : va_W} (h : va_D A ws) (ha : ws'.map Prod.fst = ws.map Prod.fst) : va_D A ws' := by
  have key : ∀ (k : Nat) (q : Nat × va_E), ws'[k]? = some q → ∃ q' : Nat × va_E, ws[k]? = some q' ∧ q'.1 = q.1 := by
    intro k q hq
    have h1 : (ws'.map Prod.fst)[k]? = some q.1 := by rw [List.getElem?_map, hq]; rfl
    rw [ha, List.getElem?_map] at h1
    cases hw : ws[k]? with
    | none => rw [hw] at h1; cases h1
    | some q' => rw [hw] at h1; exact ⟨q', rfl, Option.some.inj h1⟩
  refine ⟨fun i j p q hi hj he => ?_, fun k q hq => ?_⟩
  · obtain ⟨p', hp', e1⟩ := key i p hi
    obtain ⟨q', hq', e2⟩ := key j q hj
    exact h.1 i j p' q' hp' hq' (by rw [e1, e2]; exact he)
  · obtain ⟨q', hq', e2⟩ := key k q hq
    rw [← e2]; exact h.2 k q' hq'
theorem va_P.putBack {D : va_G} {cl : List vw_C} {A : Nat → Prop} {ws wc wc' ws' : va_W} {H H1 : Heap} (hP : va_P D cl ws H) (hD : va_D A ws) (hP1 : va_P D cl wc' H1) (isC : List Nat) (hC : isC.map (fun i => ws[i]?) = wc.map some) (hlen : isC.length = wc'.length) (hput : putAt ws isC wc' = ws')
    (hk : ∀ q : Nat, q < H.size → ¬ aw wc q → H1[q]? = H[q]?) : va_P D cl ws' H1 := by
  intro k q hq
  rw [← hput] at hq
  rcases putAt_get isC ws wc' k q hq hlen with ⟨j, hj⟩ | ⟨h1, h2⟩
  · exact hP1 j q hj
  · refine va_at.kept (hP k q h1) (hk q.1 (va_at.lt (hP k q h1)) ?_)
    rintro ⟨j, e, hj⟩
    have h3 : (wc.map some)[j]? = some (some (q.1, e)) := by rw [List.getElem?_map, hj]; rfl
    rw [← hC, List.getElem?_map] at h3
    cases hi : isC[j]? with
    | none => rw [hi] at h3; cases h3
    | some i =>
      rw [hi] at h3
      have h4 : ws[i]? = some (q.1, e) := Option.some.inj h3
      have h5 := hD.1 k i q (q.1, e) h1 h4 rfl
      subst h5
      exact h2 (List.mem_of_getElem? hi)
theorem aw_in {A : Nat → Prop} {ws wc : va_W} (hD : va_D A ws) (isC : List Nat) (hC : isC.map (fun i => ws[i]?) = wc.map some) : ∀ q, aw wc q → A q := by
  rintro q ⟨j, e, hj⟩
  have h3 : (wc.map some)[j]? = some (some (q, e)) := by rw [List.getElem?_map, hj]; rfl
  rw [← hC, List.getElem?_map] at h3
  cases hi : isC[j]? with
  | none => rw [hi] at h3; cases h3
  | some i =>
    rw [hi] at h3
    exact hD.2 i (q, e) (Option.some.inj h3)
theorem nz {v : Int32} (h : v = 0 ∨ v = 1) : narrow .boolean (.int v) = .int v := by rcases h with rfl | rfl <;> rfl
section Base
variable {p : Program} {l : Launch} {e : Env} {R : Room} {s : State} {m : MethodId} {args : Array Value} {below : List Frame} {meth : Method} {c : Code} {H : Heap} {locs : List Loc} {cells slots : Nat} {Q : State → Prop} {cc : ByteArray} {pc : Nat} {ls : Array Slot} {D : va_G} {cI cZ : ClassId}
theorem toCR {mc ms : Nat} {g : JFrame} {rest : List Value} {Qa : State → Outcome → State → Prop} {free : Addr → Prop} (h : va_Run p l e R s m args below meth c H locs cells slots mc ms g rest Qa free) : CallRun p l e R s m args below meth c H locs cells slots mc ms g rest Qa free := by
  intro T hT X
  obtain ⟨v, st, t, T', L, h1, h2, h3, h4, h5, h6, h7⟩ := h T hT X
  exact ⟨v, st, t, T', L, h1, h2, h3, h4, h6, h7⟩
/-- a contract of a reader, from its entry -/
theorem rMet {y : MethodName} {n : Nat} {ret : Option FieldType} {rm : Room} {av : List Value} {ws : va_W} {Qc : Array Value → State → Outcome → State → Prop} {free : Addr → Prop} (hy : plainName y.cls = true) (hn : (lg_sl av).length ≤ n)
    (body : ∀ (p : Program) (e : Env) (s : State) (m : MethodId) (below : List Frame) (meth : Method) (c : Code), p.tables.exec = Jvm.exec → c.code = cc → meth.sig.returnType = ret → meth.locks = false → c.maxLocals = n → s.vm.findClass y.cls = some m.cls → (∀ w ∈ GL, w.before av.toArray s = true) → va_P D vwCl ws s.heap → va_K D vwCl (tyG cI cZ) s → nst s → ∀ ls : Array Slot, lv_has ls n (lv_args 0 av) →
      W p l e rm s m av.toArray below meth c s.heap [] 0 0 (MQ below Qc av.toArray s 0 0 free) (F0 m 0 ls [])) : Met l y (gw y cc n ret) rm (rPc D cI cZ av ws) Qc 0 0 free := by
  refine Met.ofW (cc := cc) (maxL := n) (ret := ret) hy rfl ?_
  intro p e s m args below meth c s₁ B hml hv
  obtain ⟨rfl, hP, hK, hN⟩ := hv
  have hts := atoms_spec (ws := gw y cc n ret) B.pre
  rw [lg_entry_eq]
  exact body p e s m below meth c B.exec B.bytes B.returns B.notSynchronized hml (findClass_of_methodNamed B.named) (fun w h => hts w (List.mem_cons_of_mem _ h)) hP hK hN _ (lv_entry av hn)
/-- a contract of a writer, from its entry -/
theorem wMet {y : MethodName} {n : Nat} {ret : Option FieldType} {rm : Room} {av : List Value} {ws : va_W} {Qc : Array Value → State → Outcome → State → Prop} {free : Addr → Prop} (hy : plainName y.cls = true) (hn : (lg_sl av).length ≤ n)
    (body : ∀ (p : Program) (e : Env) (s : State) (m : MethodId) (below : List Frame) (meth : Method) (c : Code), p.tables.exec = Jvm.exec → c.code = cc → meth.sig.returnType = ret → meth.locks = false → c.maxLocals = n → s.vm.findClass y.cls = some m.cls → (∀ w ∈ GL, w.before av.toArray s = true) → va_P D vwCl ws s.heap → va_K D vwCl (tyG cI cZ) s → nst s → va_D (aw ws) ws → va_S (aw ws) s.heap s.heap [] → ∀ ls : Array Slot, lv_has ls n (lv_args 0 av) →
      W p l e rm s m av.toArray below meth c s.heap [] 0 0 (MQ below Qc av.toArray s 0 0 free) (F0 m 0 ls [])) : Met l y (gw y cc n ret) rm (wPc D cI cZ av ws) Qc 0 0 free := by
  refine Met.ofW (cc := cc) (maxL := n) (ret := ret) hy rfl ?_
  intro p e s m args below meth c s₁ B hml hv
  obtain ⟨rfl, hP, hK, hN, hD⟩ := hv
  have hts := atoms_spec (ws := gw y cc n ret) B.pre
  rw [lg_entry_eq]
  exact body p e s m below meth c B.exec B.bytes B.returns B.notSynchronized hml (findClass_of_methodNamed B.named) (fun w h => hts w (List.mem_cons_of_mem _ h)) hP hK hN (hD.weaken (fun k q h _ => ⟨k, q.2, h⟩)) va_S.rf _ (lv_entry av hn)
/-- a reader's return -/
theorem rreti {v w : Int32} (hx : p.tables.exec = Jvm.exec) (hb : c.code = cc) (hr : meth.sig.returnType = some .int) (hlocks : meth.locks = false) (hv : v = w) (hdg : decode cc pc = .ok (.ireturn, 1)) : W p l e R s m args below meth c s.heap [] cells slots (MQ below (rQ w) args s cells slots (fun _ => False)) (F0 m pc ls [.int v]) :=
  W.iret hx hb hr (fun t ht _ => ⟨v, rfl, hv, ht⟩) (fun q h => by cases h) hdg hlocks
theorem rretz {v w : Int32} (hx : p.tables.exec = Jvm.exec) (hb : c.code = cc) (hr : meth.sig.returnType = some .boolean) (hlocks : meth.locks = false) (hz : v = 0 ∨ v = 1) (hv : v = w) (hdg : decode cc pc = .ok (.ireturn, 1)) : W p l e R s m args below meth c s.heap [] cells slots (MQ below (rQ w) args s cells slots (fun _ => False)) (F0 m pc ls [.int v]) :=
  W.zret hx hb hr (nz hz) (fun t ht _ => ⟨v, rfl, hv, ht⟩) (fun q h => by cases h) hdg hlocks
/-- a writer's return -/
theorem wreti {v w : Int32} {wc wc' : va_W} (hx : p.tables.exec = Jvm.exec) (hb : c.code = cc) (hr : meth.sig.returnType = some .int) (hlocks : meth.locks = false) (hv : v = w) (hP : va_P D vwCl wc' H) (hS : va_S (aw wc) s.heap H locs) (hdg : decode cc pc = .ok (.ireturn, 1)) : W p l e R s m args below meth c H locs cells slots (MQ below (wQ D (some (.int w)) wc wc') args s cells slots (aw wc)) (F0 m pc ls [.int v]) :=
  W.iret hx hb hr (fun t ht _ => ⟨by rw [hv], by rw [ht]; exact hP, hS.F ht⟩) hS.2.2 hdg hlocks
theorem wretz {v w : Int32} {wc wc' : va_W} (hx : p.tables.exec = Jvm.exec) (hb : c.code = cc) (hr : meth.sig.returnType = some .boolean) (hlocks : meth.locks = false) (hz : v = 0 ∨ v = 1) (hv : v = w) (hP : va_P D vwCl wc' H) (hS : va_S (aw wc) s.heap H locs) (hdg : decode cc pc = .ok (.ireturn, 1)) : W p l e R s m args below meth c H locs cells slots (MQ below (wQ D (some (.int w)) wc wc') args s cells slots (aw wc)) (F0 m pc ls [.int v]) :=
  W.zret hx hb hr (nz hz) (fun t ht _ => ⟨by rw [hv], by rw [ht]; exact hP, hS.F ht⟩) hS.2.2 hdg hlocks
theorem wretv {wc wc' : va_W} (hx : p.tables.exec = Jvm.exec) (hb : c.code = cc) (hr : meth.sig.returnType = none) (hlocks : meth.locks = false) (hP : va_P D vwCl wc' H) (hS : va_S (aw wc) s.heap H locs) (hdg : decode cc pc = .ok (.return_, 1)) : W p l e R s m args below meth c H locs cells slots (MQ below (wQ D none wc wc') args s cells slots (aw wc)) (F0 m pc ls []) :=
  W.vret hx hb hr (fun t ht _ => ⟨rfl, by rw [ht]; exact hP, hS.F ht⟩) hS.2.2 hdg hlocks
/-- behind a reader's call -/
theorem rback {v : Int32} {a : Array Value} {st0 rest : List Value} (hr : va_Run p l e R s m args below meth c H locs cells slots 0 0 (F0 m pc ls st0) rest (rQ v a) (fun _ => False)) (kk : W p l e R s m args below meth c H locs cells slots Q (F0 m (pc + 3) ls (.int v :: rest))) : W p l e R s m args below meth c H locs cells slots Q (F0 m pc ls st0) :=
  vp_callSi (toCR hr) (fun r h => by rw [h]; exact kk)
/-- behind a writer's call: its cells are put back at their places -/
theorem wback {rv : Option Value} {a : Array Value} {st0 rest : List Value} {wc wc' ws ws' : va_W} {A0 : Nat → Prop} {H0 : Heap} (isC : List Nat) (hr : va_Run p l e R s m args below meth c H locs cells slots 0 0 (F0 m pc ls st0) rest (wQ D rv wc wc' a) (aw wc)) (hP : va_P D vwCl ws H) (hD : va_D A0 ws) (hS : va_S A0 H0 H locs)
    (hC : isC.map (fun i => ws[i]?) = wc.map some) (hlen : isC.length = wc'.length) (hput : putAt ws isC wc' = ws') (hadr : ws'.map Prod.fst = ws.map Prod.fst)
    (kk : ∀ (H1 : Heap) (locs1 : List Loc), va_P D vwCl ws' H1 → va_D A0 ws' → va_S A0 H0 H1 locs1 → W p l e R s m args below meth c H1 locs1 cells slots Q (F0 m (pc + 3) ls (rv.toList ++ rest))) : W p l e R s m args below meth c H locs cells slots Q (F0 m pc ls st0) := by
  intro T hT X
  obtain ⟨v, st₀, t, T', L, h0, X', hL, e1, e2, ⟨hv, hP1, hz, hk⟩, st⟩ := hr T hT X
  cases hv
  rw [h0] at hz hk
  have hA := aw_in hD isC hC
  obtain ⟨t2, a1, b1⟩ := kk T'.heap (locs ++ L) (hP.putBack hD (by rw [e1]; exact hP1) isC hC hlen hput (fun q h1 h2 => by rw [e1]; exact hk q h1 h2)) (hD.adr hadr)
    ⟨Nat.le_trans hS.1 (by rw [e1]; exact hz), fun q h1 h2 => by rw [e1, hk q (Nat.lt_of_lt_of_le h1 hS.1) (fun z => h2 (hA q z))]; exact hS.2.1 q h1 h2, fun q hq => by
      rcases List.mem_append.mp hq with h | h
      · exact hS.2.2 q h
      · exact hA _ (hL q h)⟩ T' rfl X'
  exact ⟨t2, st t2 a1, b1⟩
theorem rpre {av : List Value} {ws : va_W} (hP : va_P D vwCl ws H) (hK : va_K D vwCl (tyG cI cZ) s) (hN : nst s) : ∀ U : State, U.heap = H → s.WarmedH U.vm → rPc D cI cZ av ws av.toArray U := fun U hU hW => ⟨rfl, by rw [hU]; exact hP, va_K.moved hW.alike hK, nst_warm hW hN⟩
theorem wpre {A : Nat → Prop} {av : List Value} {ws : va_W} (hP : va_P D vwCl ws H) (hK : va_K D vwCl (tyG cI cZ) s) (hN : nst s) (hD : va_D A ws) : ∀ U : State, U.heap = H → s.WarmedH U.vm → wPc D cI cZ av ws av.toArray U := fun U hU hW => ⟨rfl, by rw [hU]; exact hP, va_K.moved hW.alike hK, nst_warm hW hN, hD.weaken (fun _ _ _ _ => trivial)⟩
/-- what a call needs of the tables: a method's own facts -/
def mFit (y : MethodName) (n : Nat) : Prop := y.cls ≠ "java/lang/invoke/MethodHandle" ∧ y.cls ≠ "java/lang/invoke/VarHandle" ∧ (parseMethodDescriptor y.desc).map (fun d => d.parameters.length) = some n
theorem cN {y : MethodName} {bytes : ByteArray} {maxL n index : Nat} {ret : Option FieldType} {rm : Room} {own host : String} (hts : ∀ w ∈ GL, w.before args s = true) (hc : Cond.code y bytes maxL ret ∈ GL) (hl : va_Nw (.methodLinkNest own index y host) s) (hini : Cond.initialized y.cls ∈ GL) (hd : mFit y n) (hR : rm.frames + 1 ≤ R.frames ∧ 8 + (maxL + 11) + rm.locals ≤ R.locals) : va_CN R s args own index y host bytes maxL ret (gw y bytes maxL ret) rm rm.cells rm.slots n :=
  va_cnB n hts (gw_good hc) rfl rfl rfl hl (hts _ hini) hd hR
theorem cB {y : MethodName} {bytes : ByteArray} {maxL n index : Nat} {ret : Option FieldType} {rm : Room} {own : String} (hts : ∀ w ∈ GL, w.before args s = true) (hc : Cond.code y bytes maxL ret ∈ GL) (hl : Cond.methodLink own index y ∈ GL) (hini : Cond.initialized y.cls ∈ GL) (hd : mFit y n) (hR : rm.frames + 1 ≤ R.frames ∧ 8 + (maxL + 11) + rm.locals ≤ R.locals) : CallB R s args own index y bytes maxL ret (gw y bytes maxL ret) rm rm.cells rm.slots n :=
  callB_of n hts (gw_good hc) rfl rfl rfl (hts _ hini) (hts _ hl) hd hR
end Base
