/-! CONTRACTS: Ctr; their start, returns, calls; new cells -/
abbrev PostT : Type := Option Value → Nat → MS → (Nat → Nat) → MI → MI → MR → Prop
def PostC (post : PostT) (A : Nat → Prop) (D : va_G) (cy : Nat → ClassId) : Array Value → State → Outcome → State → Prop := fun _ st oc t =>
  (∃ (rv : Option Value) (N : Nat) (sh : MS) (ad : Nat → Nat) (M L : MI) (R : MR), oc = .returned rv ∧ post rv N sh ad M L R ∧ Wd A D cy N sh ad M L R t.heap ∧ va_K D vwCl (tysOf cy) t) ∧ va_F A st t
def Ctr (l : Launch) (D : va_G) (cy : Nat → ClassId) (y : MethodName) (ws : List Cond) (rm : Room) (N : Nat) (sh : MS) (ad : Nat → Nat) (M L : MI) (R : MR) (av : List Value) (post : PostT) : Prop :=
  ∀ sz : Nat, Met l y ws rm (va_Pc av (fun U => U.heap.size = sz ∧ Wd (fun _ => True) D cy N sh ad M L R U.heap ∧ va_K D vwCl (tysOf cy) U ∧ Zz cy (va_A (wl N ad (cellE cy sh ad M L R)) sz) U)) (PostC post (va_A (wl N ad (cellE cy sh ad M L R)) sz) D cy) rm.cells rm.slots (va_A (wl N ad (cellE cy sh ad M L R)) sz)
theorem Ctr.mono {l : Launch} {D : va_G} {cy : Nat → ClassId} {y : MethodName} {ws : List Cond} {rm : Room} {N : Nat} {sh : MS} {ad : Nat → Nat} {M L : MI} {R : MR} {av : List Value} {post post' : PostT} (h : Ctr l D cy y ws rm N sh ad M L R av post) (hp : ∀ rv N sh ad M L R, post rv N sh ad M L R → post' rv N sh ad M L R) : Ctr l D cy y ws rm N sh ad M L R av post' := by
  intro sz p e ha hc hk s m args below hf hfit hP hK
  obtain ⟨t, o, a1, a2, a3, ⟨⟨⟨rv, N', sh', ad', M', L', R', b1, b2, b3, b4⟩, b5⟩, b6⟩⟩ := h sz p e ha hc hk s m args below hf hfit hP hK
  exact ⟨t, o, a1, a2, a3, ⟨⟨⟨rv, N', sh', ad', M', L', R', b1, hp _ _ _ _ _ _ _ b2, b3, b4⟩, b5⟩, b6⟩⟩
/-- what a method's return may use: an answer v at a return instruction -/
def RetH (K : VK) (cc : ByteArray) (nL : Nat) (rm : Room) (post : PostT) (ok : Instr → Option Value → Prop) : Prop :=
  ∀ (cells slots N : Nat) (sh : MS) (ad : Nat → Nat) (M L : MI) (R : MR) (lv : List (Nat × Value)) (pc : Nat) (ins : Instr) (rv : Option Value), decode cc pc = .ok (ins, 1) → ok ins rv → cells ≤ rm.cells → slots ≤ rm.slots → (mok N sh M R → post rv N sh ad M L R) → V K nL cells slots N sh ad M L R lv rv.toList pc
def okI (ins : Instr) (rv : Option Value) : Prop := ins = .ireturn ∧ ∃ v : Int32, rv = some (.int v)
def okZ (ins : Instr) (rv : Option Value) : Prop := ins = .ireturn ∧ ∃ z : Int, (0 ≤ z ∧ z < 2) ∧ rv = some (.int (iz z))
def okB (ins : Instr) (rv : Option Value) : Prop := ins = .ireturn ∧ ∃ v : Int32, narrow .byte (.int v) = .int v ∧ rv = some (.int v)
def okC (ins : Instr) (rv : Option Value) : Prop := ins = .ireturn ∧ ∃ v : Int32, narrow .char (.int v) = .int v ∧ rv = some (.int v)
def okV (ins : Instr) (rv : Option Value) : Prop := ins = .return_ ∧ rv = none
def okL (ins : Instr) (rv : Option Value) : Prop := ins = .lreturn ∧ ∃ v : Int64, rv = some (.long v)
def okR (ins : Instr) (rv : Option Value) : Prop := ins = .areturn ∧ ∃ v : Option Nat, rv = some (va_rf v)

theorem Ctr.ofI {l : Launch} {D : va_G} {cy : Nat → ClassId} {y : MethodName} {ws ws' : List Cond} {rm : Room} {N : Nat} {sh : MS} {ad : Nat → Nat} {M L : MI} {R : MR} {av : List Value} {post : PostT} {cc : ByteArray} {maxL : Nat} (hy : plainName y.cls = true) (hw : ws = Cond.code y cc maxL (some .int) :: ws') (hlen : (lg_sl av).length ≤ maxL)
    (body : ∀ K : VK, K.1.2.1 = l → K.2.2.2.2 = (D, cy) → K.1.2.2.2.1 = rm → K.2.1.2.2.2.1.name = y.name → VX K cc maxL ws y.cls → RetH K cc maxL rm post okI → V K maxL 0 0 N sh ad M L R (lv_args 0 av) [] 0) : Ctr l D cy y ws rm N sh ad M L R av post := by
  intro sz
  refine Met.ofW (cc := cc) (maxL := maxL) (ret := (some .int)) hy hw ?_
  intro p e s m args below meth c s₁ B hml hv
  obtain ⟨rfl, hsz, hWd, hK, hZ⟩ := hv
  subst hsz
  have hts := atoms_spec (ws := ws) B.pre
  have hown : s.vm.findClass y.cls = some m.cls := findClass_of_methodNamed B.named
  have hname : meth.name = y.name := (name_of_methodNamed B.named B.method).1
  have hD : va_D (va_A (wl N ad (cellE cy sh ad M L R)) s.heap.size) (wl N ad (cellE cy sh ad M L R)) := hWd.2.1.self
  have hA : ∀ q : Nat, s.heap.size ≤ q → va_A (wl N ad (cellE cy sh ad M L R)) s.heap.size q := fun q h => Or.inr h
  have hl := lv_entry av (n := maxL) hlen
  rw [lg_entry_eq]
  refine body ((p, l, e, rm, s), (m, av.toArray, below, meth, c), (MQ below (PostC post (va_A (wl N ad (cellE cy sh ad M L R)) s.heap.size) D cy) av.toArray s rm.cells rm.slots (va_A (wl N ad (cellE cy sh ad M L R)) s.heap.size), va_A (wl N ad (cellE cy sh ad M L R)) s.heap.size, D, cy)) rfl rfl rfl hname ⟨B.exec, B.bytes, hml, hown, hts, hK, hA, hZ⟩ ?_ s.heap [] _ ⟨hWd.1, hD, hWd.2.2⟩ va_S.rf hl
  intro cells1 slots1 N1 sh1 ad1 M1 L1 R1 lv1 pc1 ins rv hdec hok hc1 hs1 hpost H1 locs1 ls1 hW1 hS1 hL1
  refine W.widen hc1 hs1 ?_
  have hq : ∀ t : State, t.heap = H1 → s.WarmedH t.vm → PostC post (va_A (wl N ad (cellE cy sh ad M L R)) s.heap.size) D cy av.toArray s (.returned rv) t := fun t ht hW => ⟨⟨rv, N1, sh1, ad1, M1, L1, R1, rfl, hpost hW1.2.2, by rw [ht]; exact hW1, va_K.moved hW.alike hK⟩, hS1.F ht⟩
  show W p l e rm s m av.toArray below meth c H1 locs1 rm.cells rm.slots _ (F0 m pc1 ls1 rv.toList)
  {
    obtain ⟨rfl, v, rfl⟩ := hok
    exact W.iret (v := v) B.exec B.bytes B.returns hq hS1.2.2 hdec B.notSynchronized }
theorem Ctr.ofZ {l : Launch} {D : va_G} {cy : Nat → ClassId} {y : MethodName} {ws ws' : List Cond} {rm : Room} {N : Nat} {sh : MS} {ad : Nat → Nat} {M L : MI} {R : MR} {av : List Value} {post : PostT} {cc : ByteArray} {maxL : Nat} (hy : plainName y.cls = true) (hw : ws = Cond.code y cc maxL (some .boolean) :: ws') (hlen : (lg_sl av).length ≤ maxL)
    (body : ∀ K : VK, K.1.2.1 = l → K.2.2.2.2 = (D, cy) → K.1.2.2.2.1 = rm → K.2.1.2.2.2.1.name = y.name → VX K cc maxL ws y.cls → RetH K cc maxL rm post okZ → V K maxL 0 0 N sh ad M L R (lv_args 0 av) [] 0) : Ctr l D cy y ws rm N sh ad M L R av post := by
  intro sz
  refine Met.ofW (cc := cc) (maxL := maxL) (ret := (some .boolean)) hy hw ?_
  intro p e s m args below meth c s₁ B hml hv
  obtain ⟨rfl, hsz, hWd, hK, hZ⟩ := hv
  subst hsz
  have hts := atoms_spec (ws := ws) B.pre
  have hown : s.vm.findClass y.cls = some m.cls := findClass_of_methodNamed B.named
  have hname : meth.name = y.name := (name_of_methodNamed B.named B.method).1
  have hD : va_D (va_A (wl N ad (cellE cy sh ad M L R)) s.heap.size) (wl N ad (cellE cy sh ad M L R)) := hWd.2.1.self
  have hA : ∀ q : Nat, s.heap.size ≤ q → va_A (wl N ad (cellE cy sh ad M L R)) s.heap.size q := fun q h => Or.inr h
  have hl := lv_entry av (n := maxL) hlen
  rw [lg_entry_eq]
  refine body ((p, l, e, rm, s), (m, av.toArray, below, meth, c), (MQ below (PostC post (va_A (wl N ad (cellE cy sh ad M L R)) s.heap.size) D cy) av.toArray s rm.cells rm.slots (va_A (wl N ad (cellE cy sh ad M L R)) s.heap.size), va_A (wl N ad (cellE cy sh ad M L R)) s.heap.size, D, cy)) rfl rfl rfl hname ⟨B.exec, B.bytes, hml, hown, hts, hK, hA, hZ⟩ ?_ s.heap [] _ ⟨hWd.1, hD, hWd.2.2⟩ va_S.rf hl
  intro cells1 slots1 N1 sh1 ad1 M1 L1 R1 lv1 pc1 ins rv hdec hok hc1 hs1 hpost H1 locs1 ls1 hW1 hS1 hL1
  refine W.widen hc1 hs1 ?_
  have hq : ∀ t : State, t.heap = H1 → s.WarmedH t.vm → PostC post (va_A (wl N ad (cellE cy sh ad M L R)) s.heap.size) D cy av.toArray s (.returned rv) t := fun t ht hW => ⟨⟨rv, N1, sh1, ad1, M1, L1, R1, rfl, hpost hW1.2.2, by rw [ht]; exact hW1, va_K.moved hW.alike hK⟩, hS1.F ht⟩
  show W p l e rm s m av.toArray below meth c H1 locs1 rm.cells rm.slots _ (F0 m pc1 ls1 rv.toList)
  {
    obtain ⟨rfl, z, hz, rfl⟩ := hok
    exact W.zret (v := iz z) B.exec B.bytes B.returns (nar_z hz) hq hS1.2.2 hdec B.notSynchronized }
theorem Ctr.ofB {l : Launch} {D : va_G} {cy : Nat → ClassId} {y : MethodName} {ws ws' : List Cond} {rm : Room} {N : Nat} {sh : MS} {ad : Nat → Nat} {M L : MI} {R : MR} {av : List Value} {post : PostT} {cc : ByteArray} {maxL : Nat} (hy : plainName y.cls = true) (hw : ws = Cond.code y cc maxL (some .byte) :: ws') (hlen : (lg_sl av).length ≤ maxL)
    (body : ∀ K : VK, K.1.2.1 = l → K.2.2.2.2 = (D, cy) → K.1.2.2.2.1 = rm → K.2.1.2.2.2.1.name = y.name → VX K cc maxL ws y.cls → RetH K cc maxL rm post okB → V K maxL 0 0 N sh ad M L R (lv_args 0 av) [] 0) : Ctr l D cy y ws rm N sh ad M L R av post := by
  intro sz
  refine Met.ofW (cc := cc) (maxL := maxL) (ret := (some .byte)) hy hw ?_
  intro p e s m args below meth c s₁ B hml hv
  obtain ⟨rfl, hsz, hWd, hK, hZ⟩ := hv
  subst hsz
  have hts := atoms_spec (ws := ws) B.pre
  have hown : s.vm.findClass y.cls = some m.cls := findClass_of_methodNamed B.named
  have hname : meth.name = y.name := (name_of_methodNamed B.named B.method).1
  have hD : va_D (va_A (wl N ad (cellE cy sh ad M L R)) s.heap.size) (wl N ad (cellE cy sh ad M L R)) := hWd.2.1.self
  have hA : ∀ q : Nat, s.heap.size ≤ q → va_A (wl N ad (cellE cy sh ad M L R)) s.heap.size q := fun q h => Or.inr h
  have hl := lv_entry av (n := maxL) hlen
  rw [lg_entry_eq]
  refine body ((p, l, e, rm, s), (m, av.toArray, below, meth, c), (MQ below (PostC post (va_A (wl N ad (cellE cy sh ad M L R)) s.heap.size) D cy) av.toArray s rm.cells rm.slots (va_A (wl N ad (cellE cy sh ad M L R)) s.heap.size), va_A (wl N ad (cellE cy sh ad M L R)) s.heap.size, D, cy)) rfl rfl rfl hname ⟨B.exec, B.bytes, hml, hown, hts, hK, hA, hZ⟩ ?_ s.heap [] _ ⟨hWd.1, hD, hWd.2.2⟩ va_S.rf hl
  intro cells1 slots1 N1 sh1 ad1 M1 L1 R1 lv1 pc1 ins rv hdec hok hc1 hs1 hpost H1 locs1 ls1 hW1 hS1 hL1
  refine W.widen hc1 hs1 ?_
  have hq : ∀ t : State, t.heap = H1 → s.WarmedH t.vm → PostC post (va_A (wl N ad (cellE cy sh ad M L R)) s.heap.size) D cy av.toArray s (.returned rv) t := fun t ht hW => ⟨⟨rv, N1, sh1, ad1, M1, L1, R1, rfl, hpost hW1.2.2, by rw [ht]; exact hW1, va_K.moved hW.alike hK⟩, hS1.F ht⟩
  show W p l e rm s m av.toArray below meth c H1 locs1 rm.cells rm.slots _ (F0 m pc1 ls1 rv.toList)
  {
    obtain ⟨rfl, v, hv, rfl⟩ := hok
    exact W.zret (v := v) B.exec B.bytes B.returns hv hq hS1.2.2 hdec B.notSynchronized }
theorem Ctr.ofC {l : Launch} {D : va_G} {cy : Nat → ClassId} {y : MethodName} {ws ws' : List Cond} {rm : Room} {N : Nat} {sh : MS} {ad : Nat → Nat} {M L : MI} {R : MR} {av : List Value} {post : PostT} {cc : ByteArray} {maxL : Nat} (hy : plainName y.cls = true) (hw : ws = Cond.code y cc maxL (some .char) :: ws') (hlen : (lg_sl av).length ≤ maxL)
    (body : ∀ K : VK, K.1.2.1 = l → K.2.2.2.2 = (D, cy) → K.1.2.2.2.1 = rm → K.2.1.2.2.2.1.name = y.name → VX K cc maxL ws y.cls → RetH K cc maxL rm post okC → V K maxL 0 0 N sh ad M L R (lv_args 0 av) [] 0) : Ctr l D cy y ws rm N sh ad M L R av post := by
  intro sz
  refine Met.ofW (cc := cc) (maxL := maxL) (ret := (some .char)) hy hw ?_
  intro p e s m args below meth c s₁ B hml hv
  obtain ⟨rfl, hsz, hWd, hK, hZ⟩ := hv
  subst hsz
  have hts := atoms_spec (ws := ws) B.pre
  have hown : s.vm.findClass y.cls = some m.cls := findClass_of_methodNamed B.named
  have hname : meth.name = y.name := (name_of_methodNamed B.named B.method).1
  have hD : va_D (va_A (wl N ad (cellE cy sh ad M L R)) s.heap.size) (wl N ad (cellE cy sh ad M L R)) := hWd.2.1.self
  have hA : ∀ q : Nat, s.heap.size ≤ q → va_A (wl N ad (cellE cy sh ad M L R)) s.heap.size q := fun q h => Or.inr h
  have hl := lv_entry av (n := maxL) hlen
  rw [lg_entry_eq]
  refine body ((p, l, e, rm, s), (m, av.toArray, below, meth, c), (MQ below (PostC post (va_A (wl N ad (cellE cy sh ad M L R)) s.heap.size) D cy) av.toArray s rm.cells rm.slots (va_A (wl N ad (cellE cy sh ad M L R)) s.heap.size), va_A (wl N ad (cellE cy sh ad M L R)) s.heap.size, D, cy)) rfl rfl rfl hname ⟨B.exec, B.bytes, hml, hown, hts, hK, hA, hZ⟩ ?_ s.heap [] _ ⟨hWd.1, hD, hWd.2.2⟩ va_S.rf hl
  intro cells1 slots1 N1 sh1 ad1 M1 L1 R1 lv1 pc1 ins rv hdec hok hc1 hs1 hpost H1 locs1 ls1 hW1 hS1 hL1
  refine W.widen hc1 hs1 ?_
  have hq : ∀ t : State, t.heap = H1 → s.WarmedH t.vm → PostC post (va_A (wl N ad (cellE cy sh ad M L R)) s.heap.size) D cy av.toArray s (.returned rv) t := fun t ht hW => ⟨⟨rv, N1, sh1, ad1, M1, L1, R1, rfl, hpost hW1.2.2, by rw [ht]; exact hW1, va_K.moved hW.alike hK⟩, hS1.F ht⟩
  show W p l e rm s m av.toArray below meth c H1 locs1 rm.cells rm.slots _ (F0 m pc1 ls1 rv.toList)
  {
    obtain ⟨rfl, v, hv, rfl⟩ := hok
    exact W.zret (v := v) B.exec B.bytes B.returns hv hq hS1.2.2 hdec B.notSynchronized }
theorem Ctr.ofV {l : Launch} {D : va_G} {cy : Nat → ClassId} {y : MethodName} {ws ws' : List Cond} {rm : Room} {N : Nat} {sh : MS} {ad : Nat → Nat} {M L : MI} {R : MR} {av : List Value} {post : PostT} {cc : ByteArray} {maxL : Nat} (hy : plainName y.cls = true) (hw : ws = Cond.code y cc maxL none :: ws') (hlen : (lg_sl av).length ≤ maxL)
    (body : ∀ K : VK, K.1.2.1 = l → K.2.2.2.2 = (D, cy) → K.1.2.2.2.1 = rm → K.2.1.2.2.2.1.name = y.name → VX K cc maxL ws y.cls → RetH K cc maxL rm post okV → V K maxL 0 0 N sh ad M L R (lv_args 0 av) [] 0) : Ctr l D cy y ws rm N sh ad M L R av post := by
  intro sz
  refine Met.ofW (cc := cc) (maxL := maxL) (ret := none) hy hw ?_
  intro p e s m args below meth c s₁ B hml hv
  obtain ⟨rfl, hsz, hWd, hK, hZ⟩ := hv
  subst hsz
  have hts := atoms_spec (ws := ws) B.pre
  have hown : s.vm.findClass y.cls = some m.cls := findClass_of_methodNamed B.named
  have hname : meth.name = y.name := (name_of_methodNamed B.named B.method).1
  have hD : va_D (va_A (wl N ad (cellE cy sh ad M L R)) s.heap.size) (wl N ad (cellE cy sh ad M L R)) := hWd.2.1.self
  have hA : ∀ q : Nat, s.heap.size ≤ q → va_A (wl N ad (cellE cy sh ad M L R)) s.heap.size q := fun q h => Or.inr h
  have hl := lv_entry av (n := maxL) hlen
  rw [lg_entry_eq]
  refine body ((p, l, e, rm, s), (m, av.toArray, below, meth, c), (MQ below (PostC post (va_A (wl N ad (cellE cy sh ad M L R)) s.heap.size) D cy) av.toArray s rm.cells rm.slots (va_A (wl N ad (cellE cy sh ad M L R)) s.heap.size), va_A (wl N ad (cellE cy sh ad M L R)) s.heap.size, D, cy)) rfl rfl rfl hname ⟨B.exec, B.bytes, hml, hown, hts, hK, hA, hZ⟩ ?_ s.heap [] _ ⟨hWd.1, hD, hWd.2.2⟩ va_S.rf hl
  intro cells1 slots1 N1 sh1 ad1 M1 L1 R1 lv1 pc1 ins rv hdec hok hc1 hs1 hpost H1 locs1 ls1 hW1 hS1 hL1
  refine W.widen hc1 hs1 ?_
  have hq : ∀ t : State, t.heap = H1 → s.WarmedH t.vm → PostC post (va_A (wl N ad (cellE cy sh ad M L R)) s.heap.size) D cy av.toArray s (.returned rv) t := fun t ht hW => ⟨⟨rv, N1, sh1, ad1, M1, L1, R1, rfl, hpost hW1.2.2, by rw [ht]; exact hW1, va_K.moved hW.alike hK⟩, hS1.F ht⟩
  show W p l e rm s m av.toArray below meth c H1 locs1 rm.cells rm.slots _ (F0 m pc1 ls1 rv.toList)
  {
    obtain ⟨rfl, rfl⟩ := hok
    exact W.vret B.exec B.bytes B.returns hq hS1.2.2 hdec B.notSynchronized }
theorem Ctr.ofL {l : Launch} {D : va_G} {cy : Nat → ClassId} {y : MethodName} {ws ws' : List Cond} {rm : Room} {N : Nat} {sh : MS} {ad : Nat → Nat} {M L : MI} {R : MR} {av : List Value} {post : PostT} {cc : ByteArray} {maxL : Nat} (hy : plainName y.cls = true) (hw : ws = Cond.code y cc maxL (some .long) :: ws') (hlen : (lg_sl av).length ≤ maxL)
    (body : ∀ K : VK, K.1.2.1 = l → K.2.2.2.2 = (D, cy) → K.1.2.2.2.1 = rm → K.2.1.2.2.2.1.name = y.name → VX K cc maxL ws y.cls → RetH K cc maxL rm post okL → V K maxL 0 0 N sh ad M L R (lv_args 0 av) [] 0) : Ctr l D cy y ws rm N sh ad M L R av post := by
  intro sz
  refine Met.ofW (cc := cc) (maxL := maxL) (ret := (some .long)) hy hw ?_
  intro p e s m args below meth c s₁ B hml hv
  obtain ⟨rfl, hsz, hWd, hK, hZ⟩ := hv
  subst hsz
  have hts := atoms_spec (ws := ws) B.pre
  have hown : s.vm.findClass y.cls = some m.cls := findClass_of_methodNamed B.named
  have hname : meth.name = y.name := (name_of_methodNamed B.named B.method).1
  have hD : va_D (va_A (wl N ad (cellE cy sh ad M L R)) s.heap.size) (wl N ad (cellE cy sh ad M L R)) := hWd.2.1.self
  have hA : ∀ q : Nat, s.heap.size ≤ q → va_A (wl N ad (cellE cy sh ad M L R)) s.heap.size q := fun q h => Or.inr h
  have hl := lv_entry av (n := maxL) hlen
  rw [lg_entry_eq]
  refine body ((p, l, e, rm, s), (m, av.toArray, below, meth, c), (MQ below (PostC post (va_A (wl N ad (cellE cy sh ad M L R)) s.heap.size) D cy) av.toArray s rm.cells rm.slots (va_A (wl N ad (cellE cy sh ad M L R)) s.heap.size), va_A (wl N ad (cellE cy sh ad M L R)) s.heap.size, D, cy)) rfl rfl rfl hname ⟨B.exec, B.bytes, hml, hown, hts, hK, hA, hZ⟩ ?_ s.heap [] _ ⟨hWd.1, hD, hWd.2.2⟩ va_S.rf hl
  intro cells1 slots1 N1 sh1 ad1 M1 L1 R1 lv1 pc1 ins rv hdec hok hc1 hs1 hpost H1 locs1 ls1 hW1 hS1 hL1
  refine W.widen hc1 hs1 ?_
  have hq : ∀ t : State, t.heap = H1 → s.WarmedH t.vm → PostC post (va_A (wl N ad (cellE cy sh ad M L R)) s.heap.size) D cy av.toArray s (.returned rv) t := fun t ht hW => ⟨⟨rv, N1, sh1, ad1, M1, L1, R1, rfl, hpost hW1.2.2, by rw [ht]; exact hW1, va_K.moved hW.alike hK⟩, hS1.F ht⟩
  show W p l e rm s m av.toArray below meth c H1 locs1 rm.cells rm.slots _ (F0 m pc1 ls1 rv.toList)
  {
    obtain ⟨rfl, v, rfl⟩ := hok
    exact W.lret (v := v) B.exec B.bytes B.returns hq hS1.2.2 hdec B.notSynchronized }
theorem Ctr.ofR {l : Launch} {D : va_G} {cy : Nat → ClassId} {y : MethodName} {ws ws' : List Cond} {rm : Room} {N : Nat} {sh : MS} {ad : Nat → Nat} {M L : MI} {R : MR} {av : List Value} {post : PostT} {cc : ByteArray} {maxL : Nat} {C : String} (hy : plainName y.cls = true) (hw : ws = Cond.code y cc maxL (some (.object C)) :: ws') (hlen : (lg_sl av).length ≤ maxL)
    (body : ∀ K : VK, K.1.2.1 = l → K.2.2.2.2 = (D, cy) → K.1.2.2.2.1 = rm → K.2.1.2.2.2.1.name = y.name → VX K cc maxL ws y.cls → RetH K cc maxL rm post okR → V K maxL 0 0 N sh ad M L R (lv_args 0 av) [] 0) : Ctr l D cy y ws rm N sh ad M L R av post := by
  intro sz
  refine Met.ofW (cc := cc) (maxL := maxL) (ret := (some (.object C))) hy hw ?_
  intro p e s m args below meth c s₁ B hml hv
  obtain ⟨rfl, hsz, hWd, hK, hZ⟩ := hv
  subst hsz
  have hts := atoms_spec (ws := ws) B.pre
  have hown : s.vm.findClass y.cls = some m.cls := findClass_of_methodNamed B.named
  have hname : meth.name = y.name := (name_of_methodNamed B.named B.method).1
  have hD : va_D (va_A (wl N ad (cellE cy sh ad M L R)) s.heap.size) (wl N ad (cellE cy sh ad M L R)) := hWd.2.1.self
  have hA : ∀ q : Nat, s.heap.size ≤ q → va_A (wl N ad (cellE cy sh ad M L R)) s.heap.size q := fun q h => Or.inr h
  have hl := lv_entry av (n := maxL) hlen
  rw [lg_entry_eq]
  refine body ((p, l, e, rm, s), (m, av.toArray, below, meth, c), (MQ below (PostC post (va_A (wl N ad (cellE cy sh ad M L R)) s.heap.size) D cy) av.toArray s rm.cells rm.slots (va_A (wl N ad (cellE cy sh ad M L R)) s.heap.size), va_A (wl N ad (cellE cy sh ad M L R)) s.heap.size, D, cy)) rfl rfl rfl hname ⟨B.exec, B.bytes, hml, hown, hts, hK, hA, hZ⟩ ?_ s.heap [] _ ⟨hWd.1, hD, hWd.2.2⟩ va_S.rf hl
  intro cells1 slots1 N1 sh1 ad1 M1 L1 R1 lv1 pc1 ins rv hdec hok hc1 hs1 hpost H1 locs1 ls1 hW1 hS1 hL1
  refine W.widen hc1 hs1 ?_
  have hq : ∀ t : State, t.heap = H1 → s.WarmedH t.vm → PostC post (va_A (wl N ad (cellE cy sh ad M L R)) s.heap.size) D cy av.toArray s (.returned rv) t := fun t ht hW => ⟨⟨rv, N1, sh1, ad1, M1, L1, R1, rfl, hpost hW1.2.2, by rw [ht]; exact hW1, va_K.moved hW.alike hK⟩, hS1.F ht⟩
  show W p l e rm s m av.toArray below meth c H1 locs1 rm.cells rm.slots _ (F0 m pc1 ls1 rv.toList)
  {
    obtain ⟨rfl, v, rfl⟩ := hok
    exact W.aret (v := va_rf v) B.exec B.bytes B.returns (Or.inl ⟨C, rfl⟩) (by cases v with | none => exact Or.inl rfl | some a => exact Or.inr ⟨a, rfl⟩) hq hS1.2.2 hdec B.notSynchronized }
section RowsC
variable {K : VK} {cc : ByteArray} {nL cells slots N : Nat} {Ts : List Cond} {own : String} {sh : MS} {ad : Nat → Nat} {M L : MI} {R : MR} {lv lv' : List (Nat × Value)} {st : List Value} {pc : Nat}
/-- behind a call -/
theorem v_after {y : MethodName} {ws : List Cond} {rm : Room} {av rest st0 : List Value} {post : PostT} (X : VX K cc nL Ts own)
    (hr : ∀ (H : Heap) (locs : List Loc) (ls : Array Slot), Wd K.2.2.2.1 K.2.2.2.2.1 K.2.2.2.2.2 N sh ad M L R H → va_S K.2.2.2.1 K.1.2.2.2.2.heap H locs → lv_has ls nL lv → va_Run K.1.1 K.1.2.1 K.1.2.2.1 K.1.2.2.2.1 K.1.2.2.2.2 K.2.1.1 K.2.1.2.1 K.2.1.2.2.1 K.2.1.2.2.2.1 K.2.1.2.2.2.2 H locs cells slots rm.cells rm.slots (F0 K.2.1.1 pc ls st0) rest (PostC post (va_A (wl N ad (cellE K.2.2.2.2.2 sh ad M L R)) H.size) K.2.2.2.2.1 K.2.2.2.2.2 av.toArray) (va_A (wl N ad (cellE K.2.2.2.2.2 sh ad M L R)) H.size))
    (kk : ∀ (rv : Option Value) (N' : Nat) (sh' : MS) (ad' : Nat → Nat) (M' L' : MI) (R' : MR), post rv N' sh' ad' M' L' R' → V K nL (cells + rm.cells) (slots + rm.slots) N' sh' ad' M' L' R' lv (rv.toList ++ rest) (pc + 3)) : V K nL cells slots N sh ad M L R lv st0 pc := by
  intro H locs ls hW hS hL T hT Y
  obtain ⟨v, st₀, t, T', Ls, h0, Y', hLs, e1, e2, ⟨⟨rv, N', sh', ad', M', L', R', hv, hp, hw, hk⟩, hz, hkk⟩, stp⟩ := hr H locs ls hW hS hL T hT Y
  cases hv
  have hF : ∀ q, va_A (wl N ad (cellE K.2.2.2.2.2 sh ad M L R)) H.size q → K.2.2.2.1 q := by
    intro q h
    rcases h with ⟨k, e, h⟩ | h
    · exact hW.2.1.2 k (q, e) h
    · exact X.2.2.2.2.2.2.1 q (Nat.le_trans hS.1 h)
  rw [h0] at hz hkk
  obtain ⟨t2, a1, b1⟩ := kk v N' sh' ad' M' L' R' hp T'.heap (locs ++ Ls) ls ⟨by rw [e1]; exact hw.1, hw.2.1.weaken (fun k q _ h => hF q.1 h), hw.2.2⟩
    ⟨Nat.le_trans hS.1 (by rw [e1]; exact hz), fun q h1 h2 => by rw [e1, hkk q (Nat.lt_of_lt_of_le h1 hS.1) (fun z => h2 (hF q z))]; exact hS.2.1 q h1 h2, fun q hq => by
      rcases List.mem_append.mp hq with h | h
      · exact hS.2.2 q h
      · exact hF _ (hLs q h)⟩ hL T' rfl Y'
  exact ⟨t2, stp t2 a1, b1⟩
theorem v_sub (X : VX K cc nL Ts own) {H : Heap} {locs : List Loc} (hW : Wd K.2.2.2.1 K.2.2.2.2.1 K.2.2.2.2.2 N sh ad M L R H) (hS : va_S K.2.2.2.1 K.1.2.2.2.2.heap H locs) : ∀ q, va_A (wl N ad (cellE K.2.2.2.2.2 sh ad M L R)) H.size q → K.2.2.2.1 q := by
  intro q h
  rcases h with ⟨k, e, h⟩ | h
  · exact hW.2.1.2 k (q, e) h
  · exact X.2.2.2.2.2.2.1 q (Nat.le_trans hS.1 h)
theorem pre_blind {D : va_G} {cy : Nat → ClassId} {av : List Value} {sz : Nat} {A : Nat → Prop} : FrameBlind (va_Pc av (fun U => U.heap.size = sz ∧ Wd (fun _ => True) D cy N sh ad M L R U.heap ∧ va_K D vwCl (tysOf cy) U ∧ Zz cy A U)) := fun a U g mk q => by
  obtain ⟨q0, q1, q2, q3, q4, q5, q6, q7, q8, q9⟩ := q
  exact ⟨q0, q1, q2, va_K.moved (u := U) (U := U.calling g mk a) (Vm.Alike.refl U.vm) q3, vk_S.moved (u := U) (U := U.calling g mk a) (Vm.Alike.refl U.vm) q4, vk_R.same (u := U) (U := U.calling g mk a) rfl q5, va_Z.moved (u := U) (U := U.calling g mk a) (Vm.Alike.refl U.vm) q6, va_Z.moved (u := U) (U := U.calling g mk a) (Vm.Alike.refl U.vm) q7, va_AO.moved (u := U) (U := U.calling g mk a) (Vm.Alike.refl U.vm) q8, va_AO.moved (u := U) (U := U.calling g mk a) (Vm.Alike.refl U.vm) q9⟩
/-- a virtual call: the receiver is cell i of kind ci -/
theorem v_callV (X : VX K cc nL Ts own) {y : MethodName} {ws ws' : List Cond} {rm rmC : Room} {index maxL i ci : Nat} {C : String} {T : u_T} {nf : Nat} {bytes : ByteArray} {ret : Option FieldType} {rest : List Value} (As : List Value) {post : PostT}
    (hRm : K.1.2.2.2.1 = rmC) (hC : Ctr K.1.2.1 K.2.2.2.2.1 K.2.2.2.2.2 y ws rm N sh ad M L R (.ref (ad i) :: As) post) (hG : GoodIn Ts (wsV own index C y ws)) (hw : ws = Cond.code y bytes maxL ret :: ws')
    (hdd : y.cls = C ∧ y.cls ≠ "java/lang/invoke/MethodHandle" ∧ y.cls ≠ "java/lang/invoke/VarHandle" ∧ (parseMethodDescriptor y.desc).map (fun d => d.parameters.length) = some As.length)
    (hroom : rm.frames + 1 ≤ rmC.frames ∧ 8 + (maxL + 11) + rm.locals ≤ rmC.locals ∧ cells + rm.cells ≤ rmC.cells ∧ slots + rm.slots ≤ rmC.slots)
    (hN : i < N) (hs : (sh i).1 = ci) (hci : vwCl[ci]? = some (C, T, nf) ∧ ci < 13) (hrest : (rest.map fun v => v.category).sum ≤ 8) (hd : decode cc pc = .ok (.invokevirtual index, 3))
    (kk : ∀ (rv : Option Value) (N' : Nat) (sh' : MS) (ad' : Nat → Nat) (M' L' : MI) (R' : MR), post rv N' sh' ad' M' L' R' → V K nL (cells + rm.cells) (slots + rm.slots) N' sh' ad' M' L' R' lv (rv.toList ++ rest) (pc + 3)) : V K nL cells slots N sh ad M L R lv (As.reverse ++ .ref (ad i) :: rest) pc := by
  subst hRm
  refine v_after (rm := rm) (rest := rest) (post := post) (av := .ref (ad i) :: As) (y := y) (ws := ws) X (fun H locs ls hW hS hL => ?_) kk
  exact va_runV (As := As) (rest := rest) ⟨X.1, X.2.1, X.2.2.1, X.2.2.2.1, X.2.2.2.2.1⟩ (hC H.size) (cwV As.length X.2.2.2.2.1 hG hw rfl rfl hdd ⟨hroom.1, hroom.2.1⟩)
    ⟨pre_blind, va_recv X.2.2.2.2.2.1 hW.1 hci.1 ((wl_get hN).trans (by rw [cellE_obj hs hci.2])), fun U hU hWm => ⟨rfl, by rw [hU], by rw [hU]; exact ⟨hW.1, hW.2.1.weaken (fun _ _ _ _ => trivial), hW.2.2⟩, va_K.moved hWm.alike X.2.2.2.2.2.1, X.2.2.2.2.2.2.2.go hS hU hWm (v_sub X hW hS)⟩⟩ rfl rfl hL.1 rfl (lv_room hrest) hd hroom.2.2
theorem v_callS (X : VX K cc nL Ts own) {y : MethodName} {ws ws' : List Cond} {rm rmC : Room} {index maxL : Nat} {bytes : ByteArray} {ret : Option FieldType} {rest : List Value} (As : List Value) {post : PostT}
    (hRm : K.1.2.2.2.1 = rmC) (hC : Ctr K.1.2.1 K.2.2.2.2.1 K.2.2.2.2.2 y ws rm N sh ad M L R As post) (hG : GoodIn Ts (wsS own index y ws)) (hw : ws = Cond.code y bytes maxL ret :: ws')
    (hdd : y.cls = own ∧ y.cls ≠ "java/lang/invoke/MethodHandle" ∧ y.cls ≠ "java/lang/invoke/VarHandle" ∧ (parseMethodDescriptor y.desc).map (fun d => d.parameters.length) = some As.length)
    (hroom : rm.frames + 1 ≤ rmC.frames ∧ 8 + (maxL + 11) + rm.locals ≤ rmC.locals ∧ cells + rm.cells ≤ rmC.cells ∧ slots + rm.slots ≤ rmC.slots)
    (hrest : (rest.map fun v => v.category).sum ≤ 8) (hd : decode cc pc = .ok (.invokestatic index, 3))
    (kk : ∀ (rv : Option Value) (N' : Nat) (sh' : MS) (ad' : Nat → Nat) (M' L' : MI) (R' : MR), post rv N' sh' ad' M' L' R' → V K nL (cells + rm.cells) (slots + rm.slots) N' sh' ad' M' L' R' lv (rv.toList ++ rest) (pc + 3)) : V K nL cells slots N sh ad M L R lv (As.reverse ++ rest) pc := by
  subst hRm
  refine v_after (rm := rm) (rest := rest) (post := post) (av := As) (y := y) (ws := ws) X (fun H locs ls hW hS hL => ?_) kk
  exact va_runS (As := As) (rest := rest) ⟨X.1, X.2.1, X.2.2.1, X.2.2.2.1, X.2.2.2.2.1⟩ (hC H.size) (cwS As.length X.2.2.2.2.1 hG hw rfl rfl hdd ⟨hroom.1, hroom.2.1⟩)
    ⟨pre_blind, fun U hU hWm => ⟨rfl, by rw [hU], by rw [hU]; exact ⟨hW.1, hW.2.1.weaken (fun _ _ _ _ => trivial), hW.2.2⟩, va_K.moved hWm.alike X.2.2.2.2.2.1, X.2.2.2.2.2.2.2.go hS hU hWm (v_sub X hW hS)⟩⟩ rfl rfl hL.1 rfl (lv_room hrest) hd hroom.2.2
theorem v_callI (X : VX K cc nL Ts own) {y : MethodName} {ws ws' : List Cond} {rm rmC : Room} {index maxL b : Nat} {bytes : ByteArray} {rest : List Value} (As : List Value) {post : PostT}
    (hRm : K.1.2.2.2.1 = rmC) (hC : Ctr K.1.2.1 K.2.2.2.2.1 K.2.2.2.2.2 y ws rm N sh ad M L R (.ref b :: As) post) (hG : GoodIn Ts ws) (hw : ws = Cond.code y bytes maxL none :: ws') (hini : Cond.initialized y.cls ∈ Ts) (hl : Cond.methodLink own index y ∈ Ts) (him : Cond.instanceMethod y ∈ Ts) (hy1 : y.name = "<init>")
    (hdd : y.cls ≠ "java/lang/invoke/MethodHandle" ∧ y.cls ≠ "java/lang/invoke/VarHandle" ∧ (parseMethodDescriptor y.desc).map (fun d => d.parameters.length) = some As.length)
    (hroom : rm.frames + 1 ≤ rmC.frames ∧ 8 + (maxL + 11) + rm.locals ≤ rmC.locals ∧ cells + rm.cells ≤ rmC.cells ∧ slots + rm.slots ≤ rmC.slots)
    (hrest : (rest.map fun v => v.category).sum ≤ 8) (hd : decode cc pc = .ok (.invokespecial index, 3))
    (kk : ∀ (rv : Option Value) (N' : Nat) (sh' : MS) (ad' : Nat → Nat) (M' L' : MI) (R' : MR), post rv N' sh' ad' M' L' R' → V K nL (cells + rm.cells) (slots + rm.slots) N' sh' ad' M' L' R' lv (rv.toList ++ rest) (pc + 3)) : V K nL cells slots N sh ad M L R lv (As.reverse ++ .ref b :: rest) pc := by
  subst hRm
  refine v_after (rm := rm) (rest := rest) (post := post) (av := .ref b :: As) (y := y) (ws := ws) X (fun H locs ls hW hS hL => ?_) kk
  exact va_runI (As := As) (rest := rest) ⟨X.1, X.2.1, X.2.2.1, X.2.2.2.1, X.2.2.2.2.1⟩ (hC H.size) (cwI As.length X.2.2.2.2.1 hG hw rfl rfl (X.2.2.2.2.1 _ hini) (X.2.2.2.2.1 _ hl) (X.2.2.2.2.1 _ him) hy1 hdd ⟨hroom.1, hroom.2.1⟩)
    ⟨pre_blind, fun U hU hWm => ⟨rfl, by rw [hU], by rw [hU]; exact ⟨hW.1, hW.2.1.weaken (fun _ _ _ _ => trivial), hW.2.2⟩, va_K.moved hWm.alike X.2.2.2.2.2.1, X.2.2.2.2.2.2.2.go hS hU hWm (v_sub X hW hS)⟩⟩ rfl rfl hL.1 rfl (lv_room hrest) hd hroom.2.2
/-- a static method of another class -/
theorem v_callSO (X : VX K cc nL Ts own) {y : MethodName} {ws ws' : List Cond} {rm rmC : Room} {index maxL : Nat} {bytes : ByteArray} {ret : Option FieldType} {rest : List Value} (As : List Value) {post : PostT}
    (hRm : K.1.2.2.2.1 = rmC) (hC : Ctr K.1.2.1 K.2.2.2.2.1 K.2.2.2.2.2 y ws rm N sh ad M L R As post) (hG : GoodIn Ts (va_wsS own index y ws)) (hw : ws = Cond.code y bytes maxL ret :: ws')
    (hdd : y.cls ≠ "java/lang/invoke/MethodHandle" ∧ y.cls ≠ "java/lang/invoke/VarHandle" ∧ (parseMethodDescriptor y.desc).map (fun d => d.parameters.length) = some As.length)
    (hroom : rm.frames + 1 ≤ rmC.frames ∧ 8 + (maxL + 11) + rm.locals ≤ rmC.locals ∧ cells + rm.cells ≤ rmC.cells ∧ slots + rm.slots ≤ rmC.slots)
    (hrest : (rest.map fun v => v.category).sum ≤ 8) (hd : decode cc pc = .ok (.invokestatic index, 3))
    (kk : ∀ (rv : Option Value) (N' : Nat) (sh' : MS) (ad' : Nat → Nat) (M' L' : MI) (R' : MR), post rv N' sh' ad' M' L' R' → V K nL (cells + rm.cells) (slots + rm.slots) N' sh' ad' M' L' R' lv (rv.toList ++ rest) (pc + 3)) : V K nL cells slots N sh ad M L R lv (As.reverse ++ rest) pc := by
  subst hRm
  refine v_after (rm := rm) (rest := rest) (post := post) (av := As) (y := y) (ws := ws) X (fun H locs ls hW hS hL => ?_) kk
  have ok : ∀ w ∈ va_wsS own index y ws, w.before K.2.1.2.1 K.1.2.2.2.2 = true := fun w h => X.2.2.2.2.1 w (hG w h).1
  exact va_runS (As := As) (rest := rest) ⟨X.1, X.2.1, X.2.2.1, X.2.2.2.1, X.2.2.2.2.1⟩ (hC H.size) ⟨callB_of As.length X.2.2.2.2.1 (fun w h => hG w (by unfold va_wsS; exact List.mem_append_right _ h)) hw rfl rfl (ok _ (by simp [va_wsS])) (ok _ (by simp [va_wsS])) hdd ⟨hroom.1, hroom.2.1⟩, ok _ (by simp [va_wsS])⟩
    ⟨pre_blind, fun U hU hWm => ⟨rfl, by rw [hU], by rw [hU]; exact ⟨hW.1, hW.2.1.weaken (fun _ _ _ _ => trivial), hW.2.2⟩, va_K.moved hWm.alike X.2.2.2.2.2.1, X.2.2.2.2.2.2.2.go hS hU hWm (v_sub X hW hS)⟩⟩ rfl rfl hL.1 rfl (lv_room hrest) hd hroom.2.2
theorem v_objInit (X : VX K cc nL Ts own) {rmC : Room} {index a : Nat} {rest : List Value} (hRm : K.1.2.2.2.1 = rmC) (hl : Cond.methodLink own index Lib.objectInit ∈ Ts) (him : Cond.instanceMethod Lib.objectInit ∈ Ts) (hcode : Cond.code Lib.objectInit ⟨#[0xb1]⟩ 1 none ∈ Ts) (hroom : 1 ≤ rmC.frames ∧ (rest.map fun v => v.category).sum + 12 ≤ rmC.locals) (hd : decode cc pc = .ok (.invokespecial index, 3)) (kk : V K nL cells slots N sh ad M L R lv rest (pc + 3)) : V K nL cells slots N sh ad M L R lv (.ref a :: rest) pc := by
  subst hRm
  intro H locs ls hW hS hL
  exact W.objInit X.1 X.2.1 X.2.2.2.1 (X.2.2.2.2.1 _ hl) (X.2.2.2.2.1 _ him) (X.2.2.2.2.1 _ hcode) rfl (by rw [X.2.2.1]; exact hL.1) rfl hd hroom.1 (by have h := hroom.2; show 2 * 0 + _ + 12 ≤ _; omega) (kk H locs ls hW hS hL)
theorem v_max (X : VX K cc nL Ts own) {rmC : Room} {index : Nat} {rest : List Value} {a b : Int} (c : Int) (hRm : K.1.2.2.2.1 = rmC) (hl : Cond.methodLink own index Lib.Math.max.name ∈ Ts) (hst : Cond.static Lib.Math.max.name ∈ Ts) (hini : Cond.initialized "java/lang/Math" ∈ Ts) (hcode : Cond.code Lib.Math.max.name Lib.Math.max.code 2 (some .int) ∈ Ts) (hroom : 1 ≤ rmC.frames ∧ (rest.map fun v => v.category).sum + 13 ≤ rmC.locals ∧ cells ≤ rmC.cells ∧ slots ≤ rmC.slots) (ha : inR a) (hb : inR b) (hc : c = max a b) (hd : decode cc pc = .ok (.invokestatic index, 3)) (kk : V K nL cells slots N sh ad M L R lv (.int (iz c) :: rest) (pc + 3)) : V K nL cells slots N sh ad M L R lv (.int (iz b) :: .int (iz a) :: rest) pc := by
  subst hRm
  intro H locs ls hW hS hL
  refine va_mmax X.1 X.2.1 (by rw [X.2.2.1]; exact hL.1.symm) X.2.2.2.1 (X.2.2.2.2.1 _ hl) (X.2.2.2.2.1 _ hst) (X.2.2.2.2.1 _ hini) (X.2.2.2.2.1 _ hcode) hroom.1 hroom.2.1 hroom.2.2.1 hroom.2.2.2 hd ?_
  rw [show (if iz a < iz b then iz b else iz a) = iz c from by
    by_cases h : a < b
    · rw [if_pos ((iz_lt ha hb).mpr h), hc, Int.max_eq_right (by omega)]
    · rw [if_neg (fun q => h ((iz_lt ha hb).mp q)), hc, Int.max_eq_left (by omega)]]
  exact kk H locs ls hW hS hL
theorem v_min (X : VX K cc nL Ts own) {rmC : Room} {index : Nat} {rest : List Value} {a b : Int} (c : Int) (hRm : K.1.2.2.2.1 = rmC) (hl : Cond.methodLink own index Lib.Math.min.name ∈ Ts) (hst : Cond.static Lib.Math.min.name ∈ Ts) (hini : Cond.initialized "java/lang/Math" ∈ Ts) (hcode : Cond.code Lib.Math.min.name Lib.Math.min.code 2 (some .int) ∈ Ts) (hroom : 1 ≤ rmC.frames ∧ (rest.map fun v => v.category).sum + 13 ≤ rmC.locals ∧ cells ≤ rmC.cells ∧ slots ≤ rmC.slots) (ha : inR a) (hb : inR b) (hc : c = min a b) (hd : decode cc pc = .ok (.invokestatic index, 3)) (kk : V K nL cells slots N sh ad M L R lv (.int (iz c) :: rest) (pc + 3)) : V K nL cells slots N sh ad M L R lv (.int (iz b) :: .int (iz a) :: rest) pc := by
  subst hRm
  intro H locs ls hW hS hL
  refine va_mmin X.1 X.2.1 (by rw [X.2.2.1]; exact hL.1.symm) X.2.2.2.1 (X.2.2.2.2.1 _ hl) (X.2.2.2.2.1 _ hst) (X.2.2.2.2.1 _ hini) (X.2.2.2.2.1 _ hcode) hroom.1 hroom.2.1 hroom.2.2.1 hroom.2.2.2 hd ?_
  rw [show (if iz b < iz a then iz b else iz a) = iz c from by
    by_cases h : b < a
    · rw [if_pos ((iz_lt hb ha).mpr h), hc, Int.min_eq_right (by omega)]
    · rw [if_neg (fun q => h ((iz_lt hb ha).mp q)), hc, Int.min_eq_left (by omega)]]
  exact kk H locs ls hW hS hL

theorem mok_new {i k : Nat} (h : mok N sh M R) (hi : i = N) (hk : k ≤ 2147483647) {c : Nat} : mok (N + 1) (va_up sh i (c, k)) (mrow M i (fun _ => 0)) (mrow R i (fun _ => none)) := by
  subst hi
  obtain ⟨a, b, c1, d, e⟩ := h
  refine ⟨fun j y => ?_, fun j y q => ?_, fun j y q => ?_, fun j y w q => ?_, fun j => ?_⟩
  · by_cases hj : j = i
    · subst hj; rw [mrow_s]; exact in0
    · rw [mrow_i _ _ hj]; exact a j y
  · by_cases hj : j = i
    · subst hj; rw [mrow_s]; exact ⟨by decide, by decide⟩
    · rw [mrow_i _ _ hj]; rw [va_up_ne _ _ hj] at q; exact b j y q
  · by_cases hj : j = i
    · subst hj; rw [mrow_s]; exact ⟨by decide, by decide⟩
    · rw [mrow_i _ _ hj]; rw [va_up_ne _ _ hj] at q; exact c1 j y q
  · by_cases hj : j = i
    · subst hj; rw [mrow_s] at q; cases q
    · rw [mrow_i _ _ hj] at q; have := d j y w q; omega
  · by_cases hj : j = i
    · subst hj; rw [va_up_self]; exact hk
    · rw [va_up_ne _ _ hj]; exact e j
theorem cellE_old {cy : Nat → ClassId} {q j : Nat} {x : Nat × Nat} {f g : Int → Int} (h : mok N sh M R) (hj : j < N) : cellE cy (va_up sh N x) (va_up ad N q) (mrow M N f) (mrow L N g) (mrow R N (fun _ => none)) j = cellE cy sh ad M L R j := by
  have hne : j ≠ N := by omega
  refine cellE_congr (va_up_ne _ _ hne) (mrow_i _ _ hne) (mrow_i _ _ hne) (fun z => ?_)
  rw [mrow_i _ _ hne]
  cases hr : R j z with
  | none => rfl
  | some w =>
    have := h.2.2.2.1 j z w hr
    show some (va_up ad N q w) = some (ad w)
    rw [va_up_ne _ _ (by omega)]
/-- the new world: one more cell, of shape x, all 0 and null -/
def V1 (K : VK) (nL cells slots N : Nat) (sh : MS) (ad : Nat → Nat) (M L : MI) (R : MR) (x : Nat × Nat) (lv : List (Nat × Value)) (st : List Value) (pc : Nat) : Prop :=
  ∀ ad' : Nat → Nat, (∀ j, j < N → ad' j = ad j) → V K nL cells slots (N + 1) (va_up sh N x) ad' (mrow M N (fun _ => 0)) (mrow L N (fun _ => 0)) (mrow R N (fun _ => none)) lv (.ref (ad' N) :: st) pc
theorem v_new (X : VX K cc nL Ts own) {index ci n : Nat} {C : String} {T : u_T} {rmC : Room} (ty0 : Nat → FieldType) (hin : ∀ w ∈ u_ws C T n, w ∈ Ts) (hty : ∀ k, k < n → parseFieldDescriptor (T k).2.2.1 = some (ty0 k)) (hc : vwCl[ci]? = some (C, T, n)) (hf : nF ci = n ∧ ci < 13) (hdef : ∀ k, k < n → defaultValue (ty0 k) = if rfF ci k = true then .null else .int 0)
    (hRm : K.1.2.2.2.1 = rmC) (hcl : Cond.classLink own index C ∈ Ts) (hinst : Cond.instantiable C n ∈ Ts) (hini : Cond.initialized C ∈ Ts) (hroom : cells + 1 ≤ rmC.cells ∧ slots + n ≤ rmC.slots) (hd : decode cc pc = .ok (.new index, 3))
    (kk : V1 K nL (cells + 1) (slots + n) N sh ad M L R (ci, 0) lv st (pc + 3)) : V K nL cells slots N sh ad M L R lv st pc := by
  subst hRm
  intro H locs ls hW hS hL
  refine va_new (D := K.2.2.2.2.1) (ci := ci) (fs := flds ad (mrow M N (fun _ => 0)) (mrow R N (fun _ => none)) N ci) (C := C) (T := T) (N := n) X.1 X.2.1 X.2.2.2.2.1 hin ty0 hty X.2.2.2.1 (X.2.2.2.2.1 _ hcl) (X.2.2.2.2.1 _ hinst) (X.2.2.2.2.1 _ hini) X.2.2.2.2.2.1 hW.1 hW.2.1 hS X.2.2.2.2.2.2.1 hc (fun j hj => ?_) hroom.1 hroom.2 hd (fun q H1 hP1 hD1 hS1 => ?_)
  · rw [hdef j hj, vp_V, List.getD_eq_getElem?_getD, flds_get hf.1 hj]
    unfold fldV
    by_cases h : rfF ci j = true
    · rw [if_pos h, if_pos h, mrow_s]; rfl
    · rw [if_neg h, if_neg h, mrow_s]; rfl
  · have e : wl N ad (cellE K.2.2.2.2.2 sh ad M L R) ++ [(q, .inr (ci, flds ad (mrow M N (fun _ => 0)) (mrow R N (fun _ => none)) N ci))] = wl (N + 1) (va_up ad N q) (cellE K.2.2.2.2.2 (va_up sh N (ci, 0)) (va_up ad N q) (mrow M N (fun _ => 0)) (mrow L N (fun _ => 0)) (mrow R N (fun _ => none))) := by
      refine wl_push (va_up_self _ _ _) ?_ (fun j hj => va_up_ne _ _ (by omega)) (fun j hj => cellE_old hW.2.2 hj)
      rw [cellE_obj (by rw [va_up_self]) hf.2]
      congr 2
      unfold flds
      apply List.map_congr_left
      intro k _
      unfold fldV
      rw [mrow_s, mrow_s]
      rfl
    rw [e] at hP1 hD1
    have := kk (va_up ad N q) (fun j hj => va_up_ne _ _ (by omega)) H1 locs ls ⟨hP1, hD1, mok_new hW.2.2 rfl (by decide)⟩ hS1 hL
    rw [va_up_self] at this
    exact this

theorem v_newaI (X : VX K cc nL Ts own) {n : Nat} {rmC : Room} (hRm : K.1.2.2.2.1 = rmC) (harr : Cond.arrayClass .int ∈ Ts) (hn : n ≤ 100000) (hroom : cells + 1 ≤ rmC.cells ∧ slots + n ≤ rmC.slots) (hd : decode cc pc = .ok (.newarray .int, 2))
    (kk : V1 K nL (cells + 1) (slots + n) N sh ad M L R (14, n) lv st (pc + 2)) : V K nL cells slots N sh ad M L R lv (.int (iz (n : Int)) :: st) pc := by
  subst hRm
  intro H locs ls hW hS hL
  have hr : inR (n : Int) := ⟨by omega, by omega⟩
  refine va_newa (D := K.2.2.2.2.1) (atype := .int) (ty := .int) (a0 := (n, .inl (fun _ => 0))) X.1 X.2.1 (X.2.2.2.2.1 _ harr) rfl X.2.2.2.2.2.1 hW.1 hW.2.1 hS X.2.2.2.2.2.2.1 (fun cA => rfl) (fun h => by have := (iz_lt hr in0).mp (by rw [iz_0]; exact h); omega) (by rw [iz_nc hr]; omega) (Nat.le_trans (Nat.mul_le_mul hn (show componentBytes .int ≤ 8 by decide)) (by decide)) hroom.1 hroom.2 hd (fun q cA H1 hK1 hP1 hD1 hS1 => ?_)
  have hcy : cA = K.2.2.2.2.2 14 := by
    have h1 := (hK1.2 6 (cA, .int) rfl).2
    have h2 := (X.2.2.2.2.2.1.2 1 _ rfl).2
    exact Option.some.inj (h1.symm.trans h2)
  subst hcy
  have e : wl N ad (cellE K.2.2.2.2.2 sh ad M L R) ++ [(q, .inl (K.2.2.2.2.2 14, n, .inl (fun _ => 0)))] = wl (N + 1) (va_up ad N q) (cellE K.2.2.2.2.2 (va_up sh N (14, n)) (va_up ad N q) (mrow M N (fun _ => 0)) (mrow L N (fun _ => 0)) (mrow R N (fun _ => none))) := by
    refine wl_push (va_up_self _ _ _) ?_ (fun j hj => va_up_ne _ _ (by omega)) (fun j hj => cellE_old hW.2.2 hj)
    rw [cellE_int (c := 14) (n := n) (by rw [va_up_self]) (by decide), mrow_s]
    rfl
  rw [e] at hP1 hD1
  have := kk (va_up ad N q) (fun j hj => va_up_ne _ _ (by omega)) H1 locs ls ⟨hP1, hD1, mok_new hW.2.2 rfl (by omega)⟩ hS1 hL
  rw [va_up_self] at this
  exact this
theorem v_newaB (X : VX K cc nL Ts own) {n : Nat} {rmC : Room} (hRm : K.1.2.2.2.1 = rmC) (harr : Cond.arrayClass .byte ∈ Ts) (hn : n ≤ 100000) (hroom : cells + 1 ≤ rmC.cells ∧ slots + n ≤ rmC.slots) (hd : decode cc pc = .ok (.newarray .byte, 2))
    (kk : V1 K nL (cells + 1) (slots + n) N sh ad M L R (13, n) lv st (pc + 2)) : V K nL cells slots N sh ad M L R lv (.int (iz (n : Int)) :: st) pc := by
  subst hRm
  intro H locs ls hW hS hL
  have hr : inR (n : Int) := ⟨by omega, by omega⟩
  refine va_newa (D := K.2.2.2.2.1) (atype := .byte) (ty := .byte) (a0 := (n, .inl (fun _ => 0))) X.1 X.2.1 (X.2.2.2.2.1 _ harr) rfl X.2.2.2.2.2.1 hW.1 hW.2.1 hS X.2.2.2.2.2.2.1 (fun cA => rfl) (fun h => by have := (iz_lt hr in0).mp (by rw [iz_0]; exact h); omega) (by rw [iz_nc hr]; omega) (Nat.le_trans (Nat.mul_le_mul hn (show componentBytes .byte ≤ 8 by decide)) (by decide)) hroom.1 hroom.2 hd (fun q cA H1 hK1 hP1 hD1 hS1 => ?_)
  have hcy : cA = K.2.2.2.2.2 13 := by
    have h1 := (hK1.2 6 (cA, .byte) rfl).2
    have h2 := (X.2.2.2.2.2.1.2 0 _ rfl).2
    exact Option.some.inj (h1.symm.trans h2)
  subst hcy
  have e : wl N ad (cellE K.2.2.2.2.2 sh ad M L R) ++ [(q, .inl (K.2.2.2.2.2 13, n, .inl (fun _ => 0)))] = wl (N + 1) (va_up ad N q) (cellE K.2.2.2.2.2 (va_up sh N (13, n)) (va_up ad N q) (mrow M N (fun _ => 0)) (mrow L N (fun _ => 0)) (mrow R N (fun _ => none))) := by
    refine wl_push (va_up_self _ _ _) ?_ (fun j hj => va_up_ne _ _ (by omega)) (fun j hj => cellE_old hW.2.2 hj)
    rw [cellE_int (c := 13) (n := n) (by rw [va_up_self]) (by decide), mrow_s]
    rfl
  rw [e] at hP1 hD1
  have := kk (va_up ad N q) (fun j hj => va_up_ne _ _ (by omega)) H1 locs ls ⟨hP1, hD1, mok_new hW.2.2 rfl (by omega)⟩ hS1 hL
  rw [va_up_self] at this
  exact this
theorem v_newaZ (X : VX K cc nL Ts own) {n : Nat} {rmC : Room} (hRm : K.1.2.2.2.1 = rmC) (harr : Cond.arrayClass .boolean ∈ Ts) (hn : n ≤ 100000) (hroom : cells + 1 ≤ rmC.cells ∧ slots + n ≤ rmC.slots) (hd : decode cc pc = .ok (.newarray .boolean, 2))
    (kk : V1 K nL (cells + 1) (slots + n) N sh ad M L R (16, n) lv st (pc + 2)) : V K nL cells slots N sh ad M L R lv (.int (iz (n : Int)) :: st) pc := by
  subst hRm
  intro H locs ls hW hS hL
  have hr : inR (n : Int) := ⟨by omega, by omega⟩
  refine va_newa (D := K.2.2.2.2.1) (atype := .boolean) (ty := .boolean) (a0 := (n, .inl (fun _ => 0))) X.1 X.2.1 (X.2.2.2.2.1 _ harr) rfl X.2.2.2.2.2.1 hW.1 hW.2.1 hS X.2.2.2.2.2.2.1 (fun cA => rfl) (fun h => by have := (iz_lt hr in0).mp (by rw [iz_0]; exact h); omega) (by rw [iz_nc hr]; omega) (Nat.le_trans (Nat.mul_le_mul hn (show componentBytes .boolean ≤ 8 by decide)) (by decide)) hroom.1 hroom.2 hd (fun q cA H1 hK1 hP1 hD1 hS1 => ?_)
  have hcy : cA = K.2.2.2.2.2 16 := by
    have h1 := (hK1.2 6 (cA, .boolean) rfl).2
    have h2 := (X.2.2.2.2.2.1.2 3 _ rfl).2
    exact Option.some.inj (h1.symm.trans h2)
  subst hcy
  have e : wl N ad (cellE K.2.2.2.2.2 sh ad M L R) ++ [(q, .inl (K.2.2.2.2.2 16, n, .inl (fun _ => 0)))] = wl (N + 1) (va_up ad N q) (cellE K.2.2.2.2.2 (va_up sh N (16, n)) (va_up ad N q) (mrow M N (fun _ => 0)) (mrow L N (fun _ => 0)) (mrow R N (fun _ => none))) := by
    refine wl_push (va_up_self _ _ _) ?_ (fun j hj => va_up_ne _ _ (by omega)) (fun j hj => cellE_old hW.2.2 hj)
    rw [cellE_int (c := 16) (n := n) (by rw [va_up_self]) (by decide), mrow_s]
    rfl
  rw [e] at hP1 hD1
  have := kk (va_up ad N q) (fun j hj => va_up_ne _ _ (by omega)) H1 locs ls ⟨hP1, hD1, mok_new hW.2.2 rfl (by omega)⟩ hS1 hL
  rw [va_up_self] at this
  exact this
theorem v_newaJ (X : VX K cc nL Ts own) {n : Nat} {rmC : Room} (hRm : K.1.2.2.2.1 = rmC) (harr : Cond.arrayClass .long ∈ Ts) (hn : n ≤ 100000) (hroom : cells + 1 ≤ rmC.cells ∧ slots + n ≤ rmC.slots) (hd : decode cc pc = .ok (.newarray .long, 2))
    (kk : V1 K nL (cells + 1) (slots + n) N sh ad M L R (15, n) lv st (pc + 2)) : V K nL cells slots N sh ad M L R lv (.int (iz (n : Int)) :: st) pc := by
  subst hRm
  intro H locs ls hW hS hL
  have hr : inR (n : Int) := ⟨by omega, by omega⟩
  refine va_newa (D := K.2.2.2.2.1) (atype := .long) (ty := .long) (a0 := (n, .inr (.inl (fun _ => 0)))) X.1 X.2.1 (X.2.2.2.2.1 _ harr) rfl X.2.2.2.2.2.1 hW.1 hW.2.1 hS X.2.2.2.2.2.2.1 (fun cA => rfl) (fun h => by have := (iz_lt hr in0).mp (by rw [iz_0]; exact h); omega) (by rw [iz_nc hr]; omega) (Nat.le_trans (Nat.mul_le_mul hn (show componentBytes .long ≤ 8 by decide)) (by decide)) hroom.1 hroom.2 hd (fun q cA H1 hK1 hP1 hD1 hS1 => ?_)
  have hcy : cA = K.2.2.2.2.2 15 := by
    have h1 := (hK1.2 6 (cA, .long) rfl).2
    have h2 := (X.2.2.2.2.2.1.2 2 _ rfl).2
    exact Option.some.inj (h1.symm.trans h2)
  subst hcy
  have e : wl N ad (cellE K.2.2.2.2.2 sh ad M L R) ++ [(q, .inl (K.2.2.2.2.2 15, n, .inr (.inl (fun _ => 0))))] = wl (N + 1) (va_up ad N q) (cellE K.2.2.2.2.2 (va_up sh N (15, n)) (va_up ad N q) (mrow M N (fun _ => 0)) (mrow L N (fun _ => 0)) (mrow R N (fun _ => none))) := by
    refine wl_push (va_up_self _ _ _) ?_ (fun j hj => va_up_ne _ _ (by omega)) (fun j hj => cellE_old hW.2.2 hj)
    rw [cellE_long (by rw [va_up_self]), mrow_s]
    rfl
  rw [e] at hP1 hD1
  have := kk (va_up ad N q) (fun j hj => va_up_ne _ _ (by omega)) H1 locs ls ⟨hP1, hD1, mok_new hW.2.2 rfl (by omega)⟩ hS1 hL
  rw [va_up_self] at this
  exact this
theorem v_newq17 (X : VX K cc nL Ts own) {n index : Nat} {rmC : Room} (hRm : K.1.2.2.2.1 = rmC) (hcl : Cond.classLink own index RX0 ∈ Ts) (hn : n ≤ 100000) (hroom : cells + 1 ≤ rmC.cells ∧ slots + n ≤ rmC.slots) (hd : decode cc pc = .ok (.anewarray index, 3))
    (kk : V1 K nL (cells + 1) (slots + n) N sh ad M L R (17, n) lv st (pc + 3)) : V K nL cells slots N sh ad M L R lv (.int (iz (n : Int)) :: st) pc := by
  subst hRm
  intro H locs ls hW hS hL
  have hr : inR (n : Int) := ⟨by omega, by omega⟩
  refine va_newq (D := K.2.2.2.2.1) (C := RX0) X.1 X.2.1 X.2.2.2.1 (X.2.2.2.2.1 _ hcl) X.2.2.2.2.2.2.2.2.2.2.2.1 X.2.2.2.2.2.1 hW.1 hW.2.1 hS X.2.2.2.2.2.2.1 (N' := n) (fun h => by have := (iz_lt hr in0).mp (by rw [iz_0]; exact h); omega) (by rw [iz_nc hr]; omega) (by omega) hroom.1 hroom.2 hd (fun q cA H1 hK1 hP1 hD1 hS1 => ?_)
  have hcy : cA = K.2.2.2.2.2 17 := by
    obtain ⟨_, _, _, _, _, h1⟩ := (hK1.2 6 (cA, .object RX0) rfl).2
    obtain ⟨_, _, _, _, _, h2⟩ := (X.2.2.2.2.2.1.2 4 _ rfl).2
    exact Option.some.inj (h1.symm.trans h2)
  subst hcy
  have e : wl N ad (cellE K.2.2.2.2.2 sh ad M L R) ++ [(q, .inl (K.2.2.2.2.2 17, n, .inr (.inr (.inr (.inr (fun _ => none))))))] = wl (N + 1) (va_up ad N q) (cellE K.2.2.2.2.2 (va_up sh N (17, n)) (va_up ad N q) (mrow M N (fun _ => 0)) (mrow L N (fun _ => 0)) (mrow R N (fun _ => none))) := by
    refine wl_push (va_up_self _ _ _) ?_ (fun j hj => va_up_ne _ _ (by omega)) (fun j hj => cellE_old hW.2.2 hj)
    rw [cellE_ref (c := 17) (n := n) (by rw [va_up_self]) (by decide), mrow_s]
    rfl
  rw [e] at hP1 hD1
  have := kk (va_up ad N q) (fun j hj => va_up_ne _ _ (by omega)) H1 locs ls ⟨hP1, hD1, mok_new hW.2.2 rfl (by omega)⟩ hS1 hL
  rw [va_up_self] at this
  exact this
theorem v_newq18 (X : VX K cc nL Ts own) {n index : Nat} {rmC : Room} (hRm : K.1.2.2.2.1 = rmC) (hcl : Cond.classLink own index RX2 ∈ Ts) (hn : n ≤ 100000) (hroom : cells + 1 ≤ rmC.cells ∧ slots + n ≤ rmC.slots) (hd : decode cc pc = .ok (.anewarray index, 3))
    (kk : V1 K nL (cells + 1) (slots + n) N sh ad M L R (18, n) lv st (pc + 3)) : V K nL cells slots N sh ad M L R lv (.int (iz (n : Int)) :: st) pc := by
  subst hRm
  intro H locs ls hW hS hL
  have hr : inR (n : Int) := ⟨by omega, by omega⟩
  refine va_newq (D := K.2.2.2.2.1) (C := RX2) X.1 X.2.1 X.2.2.2.1 (X.2.2.2.2.1 _ hcl) X.2.2.2.2.2.2.2.2.2.2.2.2 X.2.2.2.2.2.1 hW.1 hW.2.1 hS X.2.2.2.2.2.2.1 (N' := n) (fun h => by have := (iz_lt hr in0).mp (by rw [iz_0]; exact h); omega) (by rw [iz_nc hr]; omega) (by omega) hroom.1 hroom.2 hd (fun q cA H1 hK1 hP1 hD1 hS1 => ?_)
  have hcy : cA = K.2.2.2.2.2 18 := by
    obtain ⟨_, _, _, _, _, h1⟩ := (hK1.2 6 (cA, .object RX2) rfl).2
    obtain ⟨_, _, _, _, _, h2⟩ := (X.2.2.2.2.2.1.2 5 _ rfl).2
    exact Option.some.inj (h1.symm.trans h2)
  subst hcy
  have e : wl N ad (cellE K.2.2.2.2.2 sh ad M L R) ++ [(q, .inl (K.2.2.2.2.2 18, n, .inr (.inr (.inr (.inr (fun _ => none))))))] = wl (N + 1) (va_up ad N q) (cellE K.2.2.2.2.2 (va_up sh N (18, n)) (va_up ad N q) (mrow M N (fun _ => 0)) (mrow L N (fun _ => 0)) (mrow R N (fun _ => none))) := by
    refine wl_push (va_up_self _ _ _) ?_ (fun j hj => va_up_ne _ _ (by omega)) (fun j hj => cellE_old hW.2.2 hj)
    rw [cellE_ref (c := 18) (n := n) (by rw [va_up_self]) (by decide), mrow_s]
    rfl
  rw [e] at hP1 hD1
  have := kk (va_up ad N q) (fun j hj => va_up_ne _ _ (by omega)) H1 locs ls ⟨hP1, hD1, mok_new hW.2.2 rfl (by omega)⟩ hS1 hL
  rw [va_up_self] at this
  exact this
end RowsC
