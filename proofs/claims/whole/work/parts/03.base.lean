/-! ===== the worlds of this claim, and the rows over them ===== -/
/-- what the cells hold: cell number, place, value -/
abbrev GS : Type := Nat → Nat → Int32
def up2 (S : GS) (a i : Nat) (v : Int32) : GS := fun b => if b = a then upd (S a) i v else S b
def sc (S : GS) (a : Nat) (f : Nat → Int32) : GS := fun b => if b = a then f else S b
def SZ : GS := fun _ _ => 0
/-- the class: its object's slots -/
def fC (hs : Nat → Nat) (S : GS) : List Value := [.int (S 0 0), .int (S 0 1), .ref (hs 2), .ref (hs 3), .int (S 0 4), .ref (hs 5), .ref (hs 6), .int (S 0 7), .ref (hs 8), .int (S 0 9), .ref (hs 10), .ref (hs 11), .ref (hs 12), .ref (hs 13)]
/-- its line's slots -/
def fL (S : GS) : List Value := [.int (S 13 0), .int (S 13 1), .int (S 13 2), .int (S 13 3), .int (S 13 4), .int (S 13 5), .int (S 13 6), .int (S 13 7), .int (S 13 8), .int (S 13 9), .int (S 13 10), .int (S 13 11)]
/-- the class's cells, and others behind them -/
def wC (cy : ClassId) (hs : Nat → Nat) (X : va_W) (S : GS) : va_W := (hs 0, .inr (1, fC hs S)) :: (hs 2, .inl (cy, 192, .inl (S 2))) :: (hs 3, .inl (cy, 192, .inl (S 3))) :: (hs 5, .inl (cy, 10, .inl (S 5))) :: (hs 6, .inl (cy, 10, .inl (S 6))) :: (hs 8, .inl (cy, 40, .inl (S 8))) :: (hs 10, .inl (cy, 10, .inl (S 10))) :: (hs 11, .inl (cy, 10, .inl (S 11))) :: (hs 12, .inl (cy, 192, .inl (S 12))) :: (hs 13, .inr (0, fL S)) :: X
/-- the reference: its object's slots -/
def fM (hs : Nat → Nat) (S : GS) : List Value := [.int (S 0 0), .int (S 0 1), .ref (hs 2), .ref (hs 3), .int (S 0 4), .ref (hs 5), .ref (hs 6), .ref (hs 7), .int (S 0 8), .int (S 0 9), .int (S 0 10), .int (S 0 11), .int (S 0 12), .int (S 0 13), .int (S 0 14), .int (S 0 15), .int (S 0 16), .ref (hs 17), .int (S 0 18), .ref (hs 19), .ref (hs 20), .ref (hs 21), .int (S 0 22), .ref (hs 23), .ref (hs 24), .ref (hs 25), .ref (hs 26)]
def wM (cy : ClassId) (hs : Nat → Nat) (X : va_W) (S : GS) : va_W := (hs 0, .inr (2, fM hs S)) :: (hs 2, .inl (cy, 192, .inl (S 2))) :: (hs 3, .inl (cy, 192, .inl (S 3))) :: (hs 5, .inl (cy, 10, .inl (S 5))) :: (hs 6, .inl (cy, 10, .inl (S 6))) :: (hs 7, .inl (cy, 10, .inl (S 7))) :: (hs 17, .inl (cy, 192, .inl (S 17))) :: (hs 19, .inl (cy, 40, .inl (S 19))) :: (hs 20, .inl (cy, 40, .inl (S 20))) :: (hs 21, .inl (cy, 10, .inl (S 21))) :: (hs 23, .inl (cy, 10, .inl (S 23))) :: (hs 24, .inl (cy, 10, .inl (S 24))) :: (hs 25, .inl (cy, 10, .inl (S 25))) :: (hs 26, .inl (cy, 192, .inl (S 26))) :: X
/-- the addresses don't hang on what the cells hold -/
def Adr (cel : GS → va_W) : Prop := ∀ S S' : GS, (cel S).map (fun q => q.1) = (cel S').map (fun q => q.1)
theorem wC_adr {cy : ClassId} {hs : Nat → Nat} {X : va_W} : Adr (wC cy hs X) := fun _ _ => rfl
theorem wM_adr {cy : ClassId} {hs : Nat → Nat} {X : va_W} : Adr (wM cy hs X) := fun _ _ => rfl
theorem adr_at {w w' : va_W} (h : w.map (fun q => q.1) = w'.map (fun q => q.1)) {k : Nat} {q : Nat × va_E} (hk : w'[k]? = some q) : ∃ q1, w[k]? = some q1 ∧ q1.1 = q.1 := by
  have h1 := congrArg (fun l : List Nat => l[k]?) h
  simp only [List.getElem?_map, hk, Option.map_some] at h1
  cases hw : w[k]? with
  | none => rw [hw] at h1; cases h1
  | some q1 => rw [hw] at h1; exact ⟨q1, rfl, Option.some.inj h1⟩
theorem adr_D {A : Nat → Prop} {w w' : va_W} (h : w.map (fun q => q.1) = w'.map (fun q => q.1)) (hD : va_D A w) : va_D A w' := by
  refine ⟨fun i j x y hi hj hxy => ?_, fun k q hk => ?_⟩
  · obtain ⟨x1, a1, b1⟩ := adr_at h hi
    obtain ⟨y1, a2, b2⟩ := adr_at h hj
    exact hD.1 i j x1 y1 a1 a2 (b1.trans (hxy.trans b2.symm))
  · obtain ⟨q1, a1, b1⟩ := adr_at h hk
    rw [← b1]; exact hD.2 k q1 a1
theorem adr_A1 {w w' : va_W} (h : w.map (fun q => q.1) = w'.map (fun q => q.1)) {sz q : Nat} (hq : va_A w' sz q) : va_A w sz q := by
  rcases hq with ⟨k, e, hk⟩ | hq
  · obtain ⟨q1, a1, b1⟩ := adr_at h hk
    obtain ⟨q2, e2⟩ := q1
    cases b1
    exact Or.inl ⟨k, e2, a1⟩
  · exact Or.inr hq
theorem adr_A {w w' : va_W} (h : w.map (fun q => q.1) = w'.map (fun q => q.1)) {sz : Nat} : va_A w sz = va_A w' sz := by
  funext q
  exact propext ⟨adr_A1 h.symm, adr_A1 h⟩
/-- the classes and the two links between nest mates -/
def KW (D : va_G) (cy : ClassId) (s : State) : Prop := va_K D vwCl [(cy, .int)] s ∧ va_Nw (.methodLinkNest RX0 9 yX1_columnOf RX1) s ∧ va_Nw (.methodLinkNest RX0 13 yX1_rowOf RX1) s
theorem KW.warm {D : va_G} {cy : ClassId} {s U : State} (hW : s.WarmedH U.vm) (h : KW D cy s) : KW D cy U := ⟨va_K.moved hW.alike h.1, va_Nw.warmM hW h.2.1, va_Nw.warmM hW h.2.2⟩
theorem KW.calling {D : va_G} {cy : ClassId} {U : State} {g : JFrame} {mk : MethodId} {a : Array Value} (h : KW D cy U) : KW D cy (U.calling g mk a) := ⟨va_K.moved (u := U) (U := U.calling g mk a) (Vm.Alike.refl U.vm) h.1, va_Nw.same rfl rfl h.2.1, va_Nw.same rfl rfl h.2.2⟩
/-- which cells a method of the world may change -/
def Aw (cel : GS → va_W) (sz : Nat) : Nat → Prop := va_A (cel SZ) sz
/-- the world at a point of a walk -/
def GW (D : va_G) (cy : ClassId) (cel : GS → va_W) (A : Nat → Prop) (s : State) (S : GS) (H : Heap) (locs : List Loc) : Prop :=
  KW D cy s ∧ va_P D vwCl (cel S) H ∧ va_D A (cel S) ∧ va_S A s.heap H locs ∧ ∀ q : Nat, s.heap.size ≤ q → A q
/-- a contract's start -/
def Pw (D : va_G) (cy : ClassId) (cel : GS → va_W) (S : GS) (av : List Value) (sz : Nat) : Array Value → State → Prop :=
  va_Pc av (fun U => U.heap.size = sz ∧ va_P D vwCl (cel S) U.heap ∧ KW D cy U ∧ va_D (fun _ => True) (cel S))
theorem Pw.blind {D : va_G} {cy : ClassId} {cel : GS → va_W} {S : GS} {av : List Value} {sz : Nat} : FrameBlind (Pw D cy cel S av sz) := by
  intro a U g mk h
  obtain ⟨h1, h2, h3, h4, h5⟩ := h
  exact ⟨h1, h2, h3, h4.calling, h5⟩
/-- contracts' ends -/
def QI (D : va_G) (cel : GS → va_W) (post : Int32 → GS → Prop) (sz : Nat) : Array Value → State → Outcome → State → Prop := va_Qi post (fun S' t => va_P D vwCl (cel S') t.heap) (Aw cel sz)
def QV (D : va_G) (cel : GS → va_W) (post : GS → Prop) (sz : Nat) : Array Value → State → Outcome → State → Prop := va_Qv post (fun S' t => va_P D vwCl (cel S') t.heap) (Aw cel sz)
def QD (D : va_G) (cel : GS → va_W) (post : UInt64 → GS → Prop) (sz : Nat) : Array Value → State → Outcome → State → Prop := va_Qd post (fun S' t => va_P D vwCl (cel S') t.heap) (Aw cel sz)
def QF (D : va_G) (cel : GS → va_W) (post : UInt32 → GS → Prop) (sz : Nat) : Array Value → State → Outcome → State → Prop := va_Qf post (fun S' t => va_P D vwCl (cel S') t.heap) (Aw cel sz)
def wds (y : MethodName) (b : ByteArray) (mL : Nat) (ret : Option FieldType) : List Cond := .code y b mL ret :: lt
abbrev rmm (fr lo : Nat) : Room := { frames := fr, cells := 0, slots := 0, locals := lo }
/-- A CONTRACT over a world that holds S -/
def Ct (l : Launch) (D : va_G) (cy : ClassId) (cel : GS → va_W) (y : MethodName) (b : ByteArray) (mL : Nat) (ret : Option FieldType) (fr lo : Nat) (S : GS) (av : List Value) (Qc : Nat → Array Value → State → Outcome → State → Prop) : Prop :=
  ∀ sz : Nat, Met l y (wds y b mL ret) (rmm fr lo) (Pw D cy cel S av sz) (Qc sz) 0 0 (Aw cel sz)
/-- what a walk knows of its method -/
def cx (p : Program) (s : State) (m : MethodId) (meth : Method) (c : Code) (args : Array Value) (own : String) (b : ByteArray) (mL : Nat) (ret : Option FieldType) : Prop :=
  p.tables.exec = Jvm.exec ∧ c.code = b ∧ c.maxLocals = mL ∧ s.vm.findClass own = some m.cls ∧ (∀ w ∈ lt, w.before args s = true) ∧ meth.sig.returnType = ret ∧ meth.locks = false
theorem Ct.of {l : Launch} {D : va_G} {cy : ClassId} {cel : GS → va_W} {y : MethodName} {b : ByteArray} {mL : Nat} {ret : Option FieldType} {fr lo : Nat} {S : GS} {av : List Value} {Qc : Nat → Array Value → State → Outcome → State → Prop}
    (hA : Adr cel) (hy : plainFor y = true) (hmL : (lg_sl av).length ≤ mL)
    (body : ∀ (p : Program) (e : Env) (s : State) (m : MethodId) (below : List Frame) (meth : Method) (c : Code) (ls : Array Slot), cx p s m meth c av.toArray y.cls b mL ret → lv_has ls mL (lv_args 0 av) → GW D cy cel (Aw cel s.heap.size) s S s.heap [] →
      W p l e (rmm fr lo) s m av.toArray below meth c s.heap [] 0 0 (MQ below (Qc s.heap.size) av.toArray s 0 0 (Aw cel s.heap.size)) (F0 m 0 ls [])) : Ct l D cy cel y b mL ret fr lo S av Qc := by
  intro sz
  refine va_MetF (cc := b) (maxL := mL) (ret := ret) hy rfl ?_
  intro p e s m args below meth c s₁ B hml hv
  obtain ⟨rfl, hsz, hP, hK, hD⟩ := hv
  have hts := atoms_spec (ws := wds y b mL ret) B.pre
  subst hsz
  have hD1 := hD.self (sz := s.heap.size)
  rw [adr_A (hA S SZ)] at hD1
  have hl := lv_entry av (n := mL) hmL
  rw [lg_entry_eq]
  exact body p e s m below meth c _ ⟨B.exec, B.bytes, hml, findClass_of_methodNamed B.named, fun w h => hts w (List.mem_cons_of_mem _ h), B.returns, B.notSynchronized⟩ hl ⟨hK, hP, hD1, va_S.rf, fun q h => Or.inr h⟩
section Rows
variable {p : Program} {l : Launch} {e : Env} {R : Room} {s : State} {m : MethodId} {args : Array Value} {below : List Frame} {meth : Method} {c : Code} {H : Heap} {locs : List Loc} {cells slots : Nat} {Q : State → Prop}
variable {D : va_G} {cy : ClassId} {cel : GS → va_W} {A : Nat → Prop} {S : GS} {cc : ByteArray} {pc : Nat} {ls : Array Slot} {rest : List Value} {own : String}
theorem g_top {x y : Int32} (h : x = y) (k : W p l e R s m args below meth c H locs cells slots Q (F0 m pc ls (.int y :: rest))) : W p l e R s m args below meth c H locs cells slots Q (F0 m pc ls (.int x :: rest)) := h ▸ k
theorem GW.st {S' : GS} (h : GW D cy cel A s S H locs) (hS : S = S') : GW D cy cel A s S' H locs := hS ▸ h
/-- a field is read -/
theorem g_get (hx : p.tables.exec = Jvm.exec) (hb : c.code = cc) (hts : ∀ w ∈ lt, w.before args s = true) (hown : s.vm.findClass own = some m.cls) (hG : GW D cy cel A s S H locs) {C : String} {T : u_T} {N ci : Nat} (hin : ∀ w ∈ u_ws C T N, w ∈ lt) (q0 : Nat) {a : Nat} {fs : List Value} (he : (cel S)[q0]? = some (a, .inr (ci, fs))) (hc : vwCl[ci]? = some (C, T, N)) (k : Nat) (hk : k < N) {idx : Nat} (hw : Cond.fieldLink own idx (T k).1 (T k).2.1 (T k).2.2.1 ∈ lt) {v : Value} (hv : fs[k]? = some v) (hdg : decode cc pc = .ok (.getfield idx, 3))
    (kk : W p l e R s m args below meth c H locs cells slots Q (F0 m (pc + 3) ls (v :: rest))) : W p l e R s m args below meth c H locs cells slots Q (F0 m pc ls (.ref a :: rest)) :=
  va_get hx hb hts hin hown hG.1.1 hG.2.1 q0 he hc k hk (hts _ hw) (fun _ h => h) hv hdg kk
/-- an int field is written -/
theorem g_put (hx : p.tables.exec = Jvm.exec) (hb : c.code = cc) (hts : ∀ w ∈ lt, w.before args s = true) (hown : s.vm.findClass own = some m.cls) (hG : GW D cy cel A s S H locs) {C : String} {T : u_T} {N ci : Nat} (hin : ∀ w ∈ u_ws C T N, w ∈ lt) (ty0 : Nat → FieldType) (hty : ∀ k, k < N → parseFieldDescriptor (T k).2.2.1 = some (ty0 k)) (hnm : ∀ a, a < N → ∀ b, b < N → a ≠ b → (T a).2.1 ≠ (T b).2.1) (q0 : Nat) {a : Nat} {fs : List Value} (he : (cel S)[q0]? = some (a, .inr (ci, fs))) (hc : vwCl[ci]? = some (C, T, N)) (k : Nat) (hk : k < N) {idx : Nat} (hw : Cond.fieldLink own idx (T k).1 (T k).2.1 (T k).2.2.1 ∈ lt) (hfin : (T k).2.2.2 = false) (hd : parseFieldDescriptor (T k).2.2.1 = some .int) (hlen : k < fs.length) {v : Int32} (S' : GS) (hS' : (cel S).set q0 (a, .inr (ci, fs.set k (.int v))) = cel S') (hdg : decode cc pc = .ok (.putfield idx, 3))
    (kk : ∀ (H1 : Heap) (locs1 : List Loc), GW D cy cel A s S' H1 locs1 → W p l e R s m args below meth c H1 locs1 cells slots Q (F0 m (pc + 3) ls rest)) : W p l e R s m args below meth c H locs cells slots Q (F0 m pc ls (.int v :: .ref a :: rest)) := by
  obtain ⟨hK, hP, hD, hS, hA⟩ := hG
  refine va_put (ty := .int) hx hb hts hin ty0 hty hnm hown hK.1 hP hD hS q0 he hc k hk (hts _ hw) (fun _ h => h) hfin hd rfl rfl hlen hdg (fun H1 locs1 hP1 hD1 hS1 => ?_)
  rw [hS'] at hP1 hD1
  exact kk H1 locs1 ⟨hK, hP1, hD1, hS1, hA⟩
/-- an int array is read -/
theorem g_ald (hx : p.tables.exec = Jvm.exec) (hb : c.code = cc) (hG : GW D cy cel A s S H locs) (q0 : Nat) {a n : Nat} {f : Nat → Int32} (ha : (cel S)[q0]? = some (a, .inl (cy, n, .inl f))) {i : Int32} (hin : vp_in i n) (hdg : decode cc pc = .ok (.iaload, 1))
    (kk : W p l e R s m args below meth c H locs cells slots Q (F0 m (pc + 1) ls (.int (f i.toNatClampNeg) :: rest))) : W p l e R s m args below meth c H locs cells slots Q (F0 m pc ls (.int i :: .ref a :: rest)) :=
  va_iald hx hb hG.1.1 hG.2.1 q0 0 ha rfl hin hdg kk
/-- the same, at a counted place -/
theorem g_aldN (hx : p.tables.exec = Jvm.exec) (hb : c.code = cc) (hG : GW D cy cel A s S H locs) (q0 : Nat) {a n : Nat} {f : Nat → Int32} (ha : (cel S)[q0]? = some (a, .inl (cy, n, .inl f))) (hn : n < 2 ^ 31) {i : Int32} (k : Nat) (hi : i = nI k) (hk : k < n) (hdg : decode cc pc = .ok (.iaload, 1))
    (kk : W p l e R s m args below meth c H locs cells slots Q (F0 m (pc + 1) ls (.int (f k) :: rest))) : W p l e R s m args below meth c H locs cells slots Q (F0 m pc ls (.int i :: .ref a :: rest)) := by
  subst hi
  refine g_ald hx hb hG q0 ha (vp_in_nI hk hn) hdg ?_
  rw [nI_clamp (Nat.lt_trans hk hn)]
  exact kk
/-- an int array is written at a counted place -/
theorem g_astN (hx : p.tables.exec = Jvm.exec) (hb : c.code = cc) (hG : GW D cy cel A s S H locs) (q0 : Nat) {a n : Nat} {f : Nat → Int32} (ha : (cel S)[q0]? = some (a, .inl (cy, n, .inl f))) (hn : n < 2 ^ 31) {i x : Int32} (k : Nat) (hi : i = nI k) (hk : k < n) (S' : GS) (hS' : (cel S).set q0 (a, .inl (cy, n, .inl (upd f k x))) = cel S') (hdg : decode cc pc = .ok (.iastore, 1))
    (kk : ∀ (H1 : Heap) (locs1 : List Loc), GW D cy cel A s S' H1 locs1 → W p l e R s m args below meth c H1 locs1 cells slots Q (F0 m (pc + 1) ls rest)) : W p l e R s m args below meth c H locs cells slots Q (F0 m pc ls (.int x :: .int i :: .ref a :: rest)) := by
  subst hi
  obtain ⟨hK, hP, hD, hS, hA⟩ := hG
  refine va_iast hx hb hK.1 hP hD hS q0 0 ha rfl (vp_in_nI hk hn) hdg (fun H1 locs1 hP1 hD1 hS1 => ?_)
  rw [nI_clamp (Nat.lt_trans hk hn), hS'] at hP1 hD1
  exact kk H1 locs1 ⟨hK, hP1, hD1, hS1, hA⟩
theorem g_alen (hx : p.tables.exec = Jvm.exec) (hb : c.code = cc) (hG : GW D cy cel A s S H locs) (q0 : Nat) {a n : Nat} {f : Nat → Int32} (ha : (cel S)[q0]? = some (a, .inl (cy, n, .inl f))) (hdg : decode cc pc = .ok (.arraylength, 1))
    (kk : W p l e R s m args below meth c H locs cells slots Q (F0 m (pc + 1) ls (.int (nI n) :: rest))) : W p l e R s m args below meth c H locs cells slots Q (F0 m pc ls (.ref a :: rest)) :=
  va_alen hx hb hG.1.1 hG.2.1 q0 0 ha rfl rfl hdg kk
-- ends
theorem g_iret {post : Int32 → GS → Prop} (hx : p.tables.exec = Jvm.exec) (hb : c.code = cc) (hr : meth.sig.returnType = some .int) (hlk : meth.locks = false) (hG : GW D cy cel (Aw cel s.heap.size) s S H locs) {v : Int32} (hp : post v S) (hdg : decode cc pc = .ok (.ireturn, 1)) :
    W p l e R s m args below meth c H locs cells slots (MQ below (QI D cel post s.heap.size) args s cells slots (Aw cel s.heap.size)) (F0 m pc ls [.int v]) :=
  W.iret hx hb hr (fun t ht _ => ⟨⟨v, S, rfl, hp, by show va_P D vwCl (cel S) t.heap; rw [ht]; exact hG.2.1⟩, hG.2.2.2.1.F ht⟩) hG.2.2.2.1.2.2 hdg hlk
theorem g_zret {post : Int32 → GS → Prop} (hx : p.tables.exec = Jvm.exec) (hb : c.code = cc) (hr : meth.sig.returnType = some .boolean) (hlk : meth.locks = false) (hG : GW D cy cel (Aw cel s.heap.size) s S H locs) {v : Int32} (hv : narrow .boolean (.int v) = .int v) (hp : post v S) (hdg : decode cc pc = .ok (.ireturn, 1)) :
    W p l e R s m args below meth c H locs cells slots (MQ below (QI D cel post s.heap.size) args s cells slots (Aw cel s.heap.size)) (F0 m pc ls [.int v]) :=
  W.zret hx hb hr hv (fun t ht _ => ⟨⟨v, S, rfl, hp, by show va_P D vwCl (cel S) t.heap; rw [ht]; exact hG.2.1⟩, hG.2.2.2.1.F ht⟩) hG.2.2.2.1.2.2 hdg hlk
theorem g_vret {post : GS → Prop} (hx : p.tables.exec = Jvm.exec) (hb : c.code = cc) (hr : meth.sig.returnType = none) (hlk : meth.locks = false) (hG : GW D cy cel (Aw cel s.heap.size) s S H locs) (hp : post S) (hdg : decode cc pc = .ok (.return_, 1)) :
    W p l e R s m args below meth c H locs cells slots (MQ below (QV D cel post s.heap.size) args s cells slots (Aw cel s.heap.size)) (F0 m pc ls []) :=
  W.vret hx hb hr (fun t ht _ => ⟨⟨S, rfl, hp, by show va_P D vwCl (cel S) t.heap; rw [ht]; exact hG.2.1⟩, hG.2.2.2.1.F ht⟩) hG.2.2.2.1.2.2 hdg hlk
theorem g_dret {post : UInt64 → GS → Prop} (hx : p.tables.exec = Jvm.exec) (hb : c.code = cc) (hr : meth.sig.returnType = some .double) (hlk : meth.locks = false) (hG : GW D cy cel (Aw cel s.heap.size) s S H locs) {v : UInt64} (hp : post v S) (hdg : decode cc pc = .ok (.dreturn, 1)) :
    W p l e R s m args below meth c H locs cells slots (MQ below (QD D cel post s.heap.size) args s cells slots (Aw cel s.heap.size)) (F0 m pc ls [.double v]) :=
  W.dret hx hb hr (fun t ht _ => ⟨⟨v, S, rfl, hp, by show va_P D vwCl (cel S) t.heap; rw [ht]; exact hG.2.1⟩, hG.2.2.2.1.F ht⟩) hG.2.2.2.1.2.2 hdg hlk
theorem g_fret {post : UInt32 → GS → Prop} (hx : p.tables.exec = Jvm.exec) (hb : c.code = cc) (hr : meth.sig.returnType = some .float) (hlk : meth.locks = false) (hG : GW D cy cel (Aw cel s.heap.size) s S H locs) {v : UInt32} (hp : post v S) (hdg : decode cc pc = .ok (.freturn, 1)) :
    W p l e R s m args below meth c H locs cells slots (MQ below (QF D cel post s.heap.size) args s cells slots (Aw cel s.heap.size)) (F0 m pc ls [.float v]) :=
  W.fret hx hb hr (fun t ht _ => ⟨⟨v, S, rfl, hp, by show va_P D vwCl (cel S) t.heap; rw [ht]; exact hG.2.1⟩, hG.2.2.2.1.F ht⟩) hG.2.2.2.1.2.2 hdg hlk
end Rows
/-! calls -/
/-- what the tables say of a method that is called virtually -/
def cwv (y : MethodName) (C : String) (b : ByteArray) (mL : Nat) (ret : Option FieldType) (n : Nat) : Prop := Cond.instanceMethod y ∈ lt ∧ Cond.selects C y y ∈ lt ∧ Cond.initialized C ∈ lt ∧ Cond.code y b mL ret ∈ lt ∧ (y.cls = C ∧ y.cls ≠ "java/lang/invoke/MethodHandle" ∧ y.cls ≠ "java/lang/invoke/VarHandle" ∧ (parseMethodDescriptor y.desc).map (fun d => d.parameters.length) = some n)
def cws (y : MethodName) (b : ByteArray) (mL : Nat) (ret : Option FieldType) (n : Nat) : Prop := Cond.static y ∈ lt ∧ Cond.initialized y.cls ∈ lt ∧ Cond.code y b mL ret ∈ lt ∧ (y.cls ≠ "java/lang/invoke/MethodHandle" ∧ y.cls ≠ "java/lang/invoke/VarHandle" ∧ (parseMethodDescriptor y.desc).map (fun d => d.parameters.length) = some n)
theorem gi_wds {y : MethodName} {b : ByteArray} {mL : Nat} {ret : Option FieldType} (h : Cond.code y b mL ret ∈ lt) : GoodIn lt (wds y b mL ret) := lt_gi (fun w hw => by
  rcases List.mem_cons.mp hw with rfl | hw
  · exact h
  · exact hw)
section Calls2
variable {p : Program} {l : Launch} {e : Env} {R : Room} {s : State} {m : MethodId} {args : Array Value} {below : List Frame} {meth : Method} {c : Code} {H : Heap} {locs : List Loc} {cells slots : Nat} {Q : State → Prop}
variable {D : va_G} {cy : ClassId} {cel : GS → va_W} {A : Nat → Prop} {S : GS} {cc : ByteArray} {pc nL : Nat} {ls : Array Slot} {rest st : List Value} {own : String}
variable {y : MethodName} {b : ByteArray} {mL : Nat} {ret : Option FieldType} {fr lo n idx : Nat} {As : List Value} {Qc : Nat → Array Value → State → Outcome → State → Prop}
theorem GW.freeW (hA : Adr cel) (hG : GW D cy cel A s S H locs) : ∀ q, Aw cel H.size q → A q := by
  obtain ⟨-, -, hD, hS, hAll⟩ := hG
  intro q h
  rcases adr_A1 (hA S SZ) h with ⟨k, e, hk⟩ | h
  · exact hD.2 k (q, e) hk
  · exact hAll q (Nat.le_trans hS.1 h)
theorem g_runV (C0 : CallFix p m c cc nL s args lt own) (hA : Adr cel) {a : Nat} (hM : Ct l D cy cel y b mL ret fr lo S (.ref a :: As) Qc) {C : String} (hcw : cwv y C b mL ret n) (hlink : Cond.methodLink own idx y ∈ lt) (hG : GW D cy cel A s S H locs) {T : u_T} {N ci : Nat} (q0 : Nat) {fs : List Value} (he : (cel S)[q0]? = some (a, .inr (ci, fs))) (hc : vwCl[ci]? = some (C, T, N)) (hR : fr + 1 ≤ R.frames ∧ 8 + (mL + 11) + lo ≤ R.locals)
    (hst : st = As.reverse ++ .ref a :: rest) (hn : As.length = n) (hsz : ls.size = nL) (hW : (rest.map fun v => v.category).sum ≤ 8) (hf : cells ≤ R.cells ∧ slots ≤ R.slots) (hdg : decode cc pc = .ok (.invokevirtual idx, 3)) :
    va_Run p l e R s m args below meth c H locs cells slots 0 0 (F0 m pc ls st) rest (Qc H.size (Value.ref a :: As).toArray) (Aw cel H.size) := by
  obtain ⟨w1, w2, w3, w4, w5⟩ := hcw
  have hgi : GoodIn lt (wsV own idx C y (wds y b mL ret)) := lt_gi (fun w hw => by
    unfold wsV at hw
    rcases List.mem_append.mp hw with h | h
    · simp only [List.mem_cons, List.not_mem_nil, or_false] at h
      rcases h with rfl | rfl | rfl | rfl
      · exact hlink
      · exact w1
      · exact w2
      · exact w3
    · exact ((gi_wds w4) w h).1)
  exact va_runV (As := As) (rest := rest) C0 (hM H.size) (cwV n C0.2.2.2.2 hgi rfl rfl rfl w5 hR) ⟨Pw.blind, va_recv hG.1.1 hG.2.1 (ci := ci) (q0 := q0) hc he, fun U hU hW => ⟨rfl, by rw [hU], by rw [hU]; exact hG.2.1, hG.1.warm hW, hG.2.2.1.weaken (fun _ _ _ _ => trivial)⟩⟩ rfl hn hsz hst (lv_room hW) hdg ⟨hf.1, hf.2⟩
theorem g_runS (C0 : CallFix p m c cc nL s args lt own) (hA : Adr cel) (hM : Ct l D cy cel y b mL ret fr lo S As Qc) (hcw : cws y b mL ret n) (hlink : Cond.methodLink own idx y ∈ lt) (hG : GW D cy cel A s S H locs) (hR : fr + 1 ≤ R.frames ∧ 8 + (mL + 11) + lo ≤ R.locals)
    (hst : st = As.reverse ++ rest) (hn : As.length = n) (hsz : ls.size = nL) (hW : (rest.map fun v => v.category).sum ≤ 8) (hf : cells ≤ R.cells ∧ slots ≤ R.slots) (hdg : decode cc pc = .ok (.invokestatic idx, 3)) :
    va_Run p l e R s m args below meth c H locs cells slots 0 0 (F0 m pc ls st) rest (Qc H.size As.toArray) (Aw cel H.size) := by
  obtain ⟨w1, w2, w3, w4⟩ := hcw
  exact va_runS (As := As) (rest := rest) C0 (hM H.size) ⟨callB_of n C0.2.2.2.2 (gi_wds w3) rfl rfl rfl (C0.2.2.2.2 _ w2) (C0.2.2.2.2 _ hlink) w4 hR, C0.2.2.2.2 _ w1⟩ ⟨Pw.blind, fun U hU hW => ⟨rfl, by rw [hU], by rw [hU]; exact hG.2.1, hG.1.warm hW, hG.2.2.1.weaken (fun _ _ _ _ => trivial)⟩⟩ rfl hn hsz hst (lv_room hW) hdg ⟨hf.1, hf.2⟩
theorem g_calli {post : Int32 → GS → Prop} {a9 : Array Value} (hA : Adr cel) (hG : GW D cy cel A s S H locs) (hr : va_Run p l e R s m args below meth c H locs cells slots 0 0 (F0 m pc ls st) rest (QI D cel post H.size a9) (Aw cel H.size))
    (kk : ∀ (r : Int32) (S' : GS) (H1 : Heap) (locs1 : List Loc), post r S' → GW D cy cel A s S' H1 locs1 → W p l e R s m args below meth c H1 locs1 cells slots Q (F0 m (pc + 3) ls (.int r :: rest))) : W p l e R s m args below meth c H locs cells slots Q (F0 m pc ls st) := by
  have hF := hG.freeW hA
  obtain ⟨hK, hP, hD, hS, hAll⟩ := hG
  exact va_calli hr hS (fun q _ h => hF q h) hF (fun r u t H1 locs1 ht hvm hw hB hz1 hk1 hS1 => kk r u H1 locs1 hw ⟨hK, by rw [← ht]; exact hB, adr_D (hA S u) hD, hS1, hAll⟩)
theorem g_callv {post : GS → Prop} {a9 : Array Value} (hA : Adr cel) (hG : GW D cy cel A s S H locs) (hr : va_Run p l e R s m args below meth c H locs cells slots 0 0 (F0 m pc ls st) rest (QV D cel post H.size a9) (Aw cel H.size))
    (kk : ∀ (S' : GS) (H1 : Heap) (locs1 : List Loc), post S' → GW D cy cel A s S' H1 locs1 → W p l e R s m args below meth c H1 locs1 cells slots Q (F0 m (pc + 3) ls rest)) : W p l e R s m args below meth c H locs cells slots Q (F0 m pc ls st) := by
  have hF := hG.freeW hA
  obtain ⟨hK, hP, hD, hS, hAll⟩ := hG
  exact va_callv hr hS (fun q _ h => hF q h) hF (fun u t H1 locs1 ht hvm hw hB hz1 hk1 hS1 => kk u H1 locs1 hw ⟨hK, by rw [← ht]; exact hB, adr_D (hA S u) hD, hS1, hAll⟩)
theorem g_calld {post : UInt64 → GS → Prop} {a9 : Array Value} (hA : Adr cel) (hG : GW D cy cel A s S H locs) (hr : va_Run p l e R s m args below meth c H locs cells slots 0 0 (F0 m pc ls st) rest (QD D cel post H.size a9) (Aw cel H.size))
    (kk : ∀ (r : UInt64) (S' : GS) (H1 : Heap) (locs1 : List Loc), post r S' → GW D cy cel A s S' H1 locs1 → W p l e R s m args below meth c H1 locs1 cells slots Q (F0 m (pc + 3) ls (.double r :: rest))) : W p l e R s m args below meth c H locs cells slots Q (F0 m pc ls st) := by
  have hF := hG.freeW hA
  obtain ⟨hK, hP, hD, hS, hAll⟩ := hG
  exact va_calld hr hS (fun q _ h => hF q h) hF (fun r u t H1 locs1 ht hvm hw hB hz1 hk1 hS1 => kk r u H1 locs1 hw ⟨hK, by rw [← ht]; exact hB, adr_D (hA S u) hD, hS1, hAll⟩)
theorem g_callf {post : UInt32 → GS → Prop} {a9 : Array Value} (hA : Adr cel) (hG : GW D cy cel A s S H locs) (hr : va_Run p l e R s m args below meth c H locs cells slots 0 0 (F0 m pc ls st) rest (QF D cel post H.size a9) (Aw cel H.size))
    (kk : ∀ (r : UInt32) (S' : GS) (H1 : Heap) (locs1 : List Loc), post r S' → GW D cy cel A s S' H1 locs1 → W p l e R s m args below meth c H1 locs1 cells slots Q (F0 m (pc + 3) ls (.float r :: rest))) : W p l e R s m args below meth c H locs cells slots Q (F0 m pc ls st) := by
  have hF := hG.freeW hA
  obtain ⟨hK, hP, hD, hS, hAll⟩ := hG
  exact va_callf hr hS (fun q _ h => hF q h) hF (fun r u t H1 locs1 ht hvm hw hB hz1 hk1 hS1 => kk r u H1 locs1 hw ⟨hK, by rw [← ht]; exact hB, adr_D (hA S u) hD, hS1, hAll⟩)
/-- A CONTRACT of a static method that touches no cell -/
def Cs (l : Launch) (y : MethodName) (b : ByteArray) (mL : Nat) (ret : Option FieldType) (fr lo : Nat) (av : List Value) (v : Int32) : Prop :=
  Met l y (wds y b mL ret) (rmm fr lo) (va_Pc av (fun _ => True)) (va_Qi (fun r (_ : Unit) => r = v) (fun _ _ => True) (fun _ => False)) 0 0 (fun _ => False)
theorem g_same (hG : GW D cy cel A s S H locs) {H1 : Heap} {locs1 : List Loc} (hz : H.size ≤ H1.size) (hk : ∀ q : Nat, q < H.size → ¬ (fun _ : Nat => False) q → H1[q]? = H[q]?) (hS1 : va_S A s.heap H1 locs1) : GW D cy cel A s S H1 locs1 := by
  obtain ⟨hK, hP, hD, hS, hAll⟩ := hG
  exact ⟨hK, hP.kept (fun k q hq => hk q.1 (hP k q hq).lt (fun h => h)), hD, hS1, hAll⟩
/-- a static method that touches no cell is called -/
theorem g_stat {v : Int32} (C0 : CallFix p m c cc nL s args lt own) (hM : Cs l y b mL ret fr lo As v) (hcw : cws y b mL ret n) (hlink : Cond.methodLink own idx y ∈ lt) (hG : GW D cy cel A s S H locs) (hR : fr + 1 ≤ R.frames ∧ 8 + (mL + 11) + lo ≤ R.locals)
    (hst : st = As.reverse ++ rest) (hn : As.length = n) (hsz : ls.size = nL) (hW : (rest.map fun v => v.category).sum ≤ 8) (hf : cells ≤ R.cells ∧ slots ≤ R.slots) (hdg : decode cc pc = .ok (.invokestatic idx, 3))
    (kk : ∀ (H1 : Heap) (locs1 : List Loc), GW D cy cel A s S H1 locs1 → W p l e R s m args below meth c H1 locs1 cells slots Q (F0 m (pc + 3) ls (.int v :: rest))) : W p l e R s m args below meth c H locs cells slots Q (F0 m pc ls st) := by
  obtain ⟨w1, w2, w3, w4⟩ := hcw
  refine va_calli (va_runS (As := As) (rest := rest) C0 hM ⟨callB_of n C0.2.2.2.2 (gi_wds w3) rfl rfl rfl (C0.2.2.2.2 _ w2) (C0.2.2.2.2 _ hlink) w4 hR, C0.2.2.2.2 _ w1⟩ ⟨fun a U g mk q => q, fun U hU hW => ⟨rfl, trivial⟩⟩ rfl hn hsz hst (lv_room hW) hdg ⟨hf.1, hf.2⟩) hG.2.2.2.1 (fun q _ h => h.elim) (fun q h => h.elim) (fun r u t H1 locs1 ht hvm hw hB hz1 hk1 hS1 => ?_)
  subst hw
  exact kk H1 locs1 (g_same hG hz1 hk1 hS1)
/-- the same, of a nest mate -/
theorem g_statN {v : Int32} {host : String} (C0 : CallFix p m c cc nL s args lt own) (hM : Cs l y b mL ret fr lo As v) (hcw : cws y b mL ret n) (hlink : va_Nw (.methodLinkNest own idx y host) s) (hG : GW D cy cel A s S H locs) (hR : fr + 1 ≤ R.frames ∧ 8 + (mL + 11) + lo ≤ R.locals)
    (hst : st = As.reverse ++ rest) (hn : As.length = n) (hsz : ls.size = nL) (hW : (rest.map fun v => v.category).sum ≤ 8) (hf : cells ≤ R.cells ∧ slots ≤ R.slots) (hdg : decode cc pc = .ok (.invokestatic idx, 3))
    (kk : ∀ (H1 : Heap) (locs1 : List Loc), GW D cy cel A s S H1 locs1 → W p l e R s m args below meth c H1 locs1 cells slots Q (F0 m (pc + 3) ls (.int v :: rest))) : W p l e R s m args below meth c H locs cells slots Q (F0 m pc ls st) := by
  obtain ⟨w1, w2, w3, w4⟩ := hcw
  refine va_calli (va_runSN (As := As) (rest := rest) C0 hM ⟨va_cnB n C0.2.2.2.2 (gi_wds w3) rfl rfl rfl hlink (C0.2.2.2.2 _ w2) w4 hR, C0.2.2.2.2 _ w1, trivial⟩ ⟨fun a U g mk q => q, fun U hU hW => ⟨rfl, trivial⟩⟩ rfl hn hsz hst (lv_room hW) hdg ⟨hf.1, hf.2⟩) hG.2.2.2.1 (fun q _ h => h.elim) (fun q h => h.elim) (fun r u t H1 locs1 ht hvm hw hB hz1 hk1 hS1 => ?_)
  subst hw
  exact kk H1 locs1 (g_same hG hz1 hk1 hS1)
/-- a static method without cells, from its entry -/
theorem Cs.of {v : Int32} (hy : plainFor y = true) (hmL : (lg_sl As).length ≤ mL)
    (body : ∀ (p : Program) (e : Env) (s : State) (m : MethodId) (below : List Frame) (meth : Method) (c : Code) (ls : Array Slot), cx p s m meth c As.toArray y.cls b mL ret → lv_has ls mL (lv_args 0 As) →
      W p l e (rmm fr lo) s m As.toArray below meth c s.heap [] 0 0 (MQ below (va_Qi (fun r (_ : Unit) => r = v) (fun _ _ => True) (fun _ => False)) As.toArray s 0 0 (fun _ => False)) (F0 m 0 ls [])) : Cs l y b mL ret fr lo As v := by
  refine va_MetF (cc := b) (maxL := mL) (ret := ret) hy rfl ?_
  intro p e s m args below meth c s₁ B hml hv
  obtain ⟨rfl, -⟩ := hv
  have hts := atoms_spec (ws := wds y b mL ret) B.pre
  have hl := lv_entry As (n := mL) hmL
  rw [lg_entry_eq]
  exact body p e s m below meth c _ ⟨B.exec, B.bytes, hml, findClass_of_methodNamed B.named, fun w h => hts w (List.mem_cons_of_mem _ h), B.returns, B.notSynchronized⟩ hl
theorem s_iret {v r : Int32} (hx : p.tables.exec = Jvm.exec) (hb : c.code = cc) (hr : meth.sig.returnType = some .int) (hlk : meth.locks = false) (hp : r = v) (hdg : decode cc pc = .ok (.ireturn, 1)) :
    W p l e R s m args below meth c s.heap [] cells slots (MQ below (va_Qi (fun r (_ : Unit) => r = v) (fun _ _ => True) (fun _ => False)) args s cells slots (fun _ => False)) (F0 m pc ls [.int r]) :=
  W.iret hx hb hr (fun t ht _ => ⟨⟨r, (), rfl, hp, trivial⟩, (va_S.rf (A := fun _ => False) (H0 := s.heap)).F ht⟩) (fun q hq => absurd hq List.not_mem_nil) hdg hlk
theorem s_zret {v r : Int32} (hx : p.tables.exec = Jvm.exec) (hb : c.code = cc) (hr : meth.sig.returnType = some .boolean) (hlk : meth.locks = false) (hv : narrow .boolean (.int r) = .int r) (hp : r = v) (hdg : decode cc pc = .ok (.ireturn, 1)) :
    W p l e R s m args below meth c s.heap [] cells slots (MQ below (va_Qi (fun r (_ : Unit) => r = v) (fun _ _ => True) (fun _ => False)) args s cells slots (fun _ => False)) (F0 m pc ls [.int r]) :=
  W.zret hx hb hr hv (fun t ht _ => ⟨⟨r, (), rfl, hp, trivial⟩, (va_S.rf (A := fun _ => False) (H0 := s.heap)).F ht⟩) (fun q hq => absurd hq List.not_mem_nil) hdg hlk
end Calls2
