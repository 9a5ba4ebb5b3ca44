/-! worlds by places: N cells, place i lies at the address ad i and holds F i -/
def hp_ws (N : Nat) (ad : Nat → Nat) (F : Nat → va_E) : va_W := (List.range N).map (fun i => (ad i, F i))
theorem hp_ws_at {N : Nat} {ad : Nat → Nat} {F : Nat → va_E} {i : Nat} (h : i < N) : (hp_ws N ad F)[i]? = some (ad i, F i) := by
  simp [hp_ws, h]
theorem hp_ws_len {N : Nat} {ad : Nat → Nat} {F : Nat → va_E} : (hp_ws N ad F).length = N := by simp [hp_ws]
theorem hp_ws_inv {N : Nat} {ad : Nat → Nat} {F : Nat → va_E} {k : Nat} {q : Nat × va_E} (h : (hp_ws N ad F)[k]? = some q) : k < N ∧ q = (ad k, F k) := by
  have hk : k < N := by
    have := (List.getElem?_eq_some_iff.mp h).1
    rwa [hp_ws_len] at this
  rw [hp_ws_at hk] at h
  exact ⟨hk, (Option.some.inj h).symm⟩
theorem hp_ws_set {N : Nat} {ad : Nat → Nat} {F : Nat → va_E} {i : Nat} (h : i < N) (e : va_E) : (hp_ws N ad F).set i (ad i, e) = hp_ws N ad (va_up F i e) := by
  apply List.ext_getElem?
  intro j
  by_cases hj : j < N
  · by_cases hij : i = j
    · subst hij
      rw [List.getElem?_set_self (by rw [hp_ws_len]; exact h), hp_ws_at h, va_up_self]
    · rw [List.getElem?_set_ne hij, hp_ws_at hj, hp_ws_at hj, va_up_ne _ _ (fun q => hij q.symm)]
  · rw [List.getElem?_eq_none (by rw [List.length_set, hp_ws_len]; omega), List.getElem?_eq_none (by rw [hp_ws_len]; omega)]
theorem hp_ws_push0 {N : Nat} {ad : Nat → Nat} {F : Nat → va_E} (q : Nat) (e : va_E) : hp_ws N ad F ++ [(q, e)] = hp_ws (N + 1) (va_up ad N q) (va_up F N e) := by
  simp only [hp_ws, List.range_succ, List.map_append, List.map_cons, List.map_nil, va_up_self]
  congr 1
  apply List.map_congr_left
  intro b hb
  have : b ≠ N := by have := List.mem_range.mp hb; omega
  rw [va_up_ne _ _ this, va_up_ne _ _ this]
/-- all that may change: what lies from z0 on -/
def hp_A (z0 : Nat) : Nat → Prop := fun q => z0 ≤ q
/-- the numbers of the classes and their slots, the array classes -/
abbrev hp_G : Type := va_G × (Nat → ClassId)
/-- the nest mates' links -/
def hp_N (U : State) : Prop := (∀ q ∈ hp_fl, va_Nw (.fieldLinkNest q.1 q.2.1 q.2.2.1 q.2.2.2.1 q.2.2.2.2.1 q.2.2.2.2.2) U) ∧ (∀ q ∈ hp_ml, va_Nw (.methodLinkNest q.1 q.2.1 q.2.2.1 q.2.2.2) U) ∧ va_AO "ValueDesk$Entity" U
theorem hp_N.warm {s U : State} (h : hp_N s) (hW : s.WarmedH U.vm) : hp_N U := ⟨fun q hq => va_Nw.warmF hW (h.1 q hq), fun q hq => va_Nw.warmM hW (h.2.1 q hq), va_AO.moved hW.alike h.2.2⟩
theorem hp_N.same {s U : State} (h : hp_N s) (e : s.vm = U.vm) : hp_N U := ⟨fun q hq => va_Nw.same rfl e (h.1 q hq), fun q hq => va_Nw.same rfl e (h.2.1 q hq), va_AO.moved (by rw [e]; exact Vm.Alike.refl _) h.2.2⟩
/-- what the tables say, and stays -/
def hp_K (g : hp_G) (U : State) : Prop := va_K g.1 vwCl (hp_t g.2) U ∧ hp_N U
theorem hp_K.warm {g : hp_G} {s U : State} (h : hp_K g s) (hW : s.WarmedH U.vm) : hp_K g U := ⟨va_K.moved hW.alike h.1, h.2.warm hW⟩
/-- the world in a state -/
def hp_B (g : hp_G) (z0 N : Nat) (ad : Nat → Nat) (F : Nat → va_E) (U : State) : Prop := va_P g.1 vwCl (hp_ws N ad F) U.heap ∧ va_D (hp_A z0) (hp_ws N ad F) ∧ z0 ≤ U.heap.size ∧ hp_K g U
/-- the world in a walk -/
def hp_W (g : hp_G) (z0 N : Nat) (ad : Nat → Nat) (F : Nat → va_E) (H0 H : Heap) (locs : List Loc) : Prop := va_P g.1 vwCl (hp_ws N ad F) H ∧ va_D (hp_A z0) (hp_ws N ad F) ∧ va_S (hp_A z0) H0 H locs ∧ z0 ≤ H0.size
theorem hp_D_F {z0 N : Nat} {ad : Nat → Nat} {F F' : Nat → va_E} (h : va_D (hp_A z0) (hp_ws N ad F)) : va_D (hp_A z0) (hp_ws N ad F') := by
  refine ⟨fun i j p q hp hq e => ?_, fun k q hk => ?_⟩
  · obtain ⟨h1, rfl⟩ := hp_ws_inv hp
    obtain ⟨h2, rfl⟩ := hp_ws_inv hq
    exact h.1 i j _ _ (hp_ws_at h1) (hp_ws_at h2) e
  · obtain ⟨h1, rfl⟩ := hp_ws_inv hk
    exact h.2 k (ad k, F k) (hp_ws_at h1)
theorem hp_W.D {g : hp_G} {z0 N : Nat} {ad : Nat → Nat} {F : Nat → va_E} {H0 H : Heap} {locs : List Loc} (h : hp_W g z0 N ad F H0 H locs) : va_D (hp_A z0) (hp_ws N ad F) := h.2.1
theorem hp_inj {z0 N : Nat} {ad : Nat → Nat} {F : Nat → va_E} (h : va_D (hp_A z0) (hp_ws N ad F)) {i j : Nat} (hi : i < N) (hj : j < N) (e : ad i = ad j) : i = j := h.1 i j _ _ (hp_ws_at hi) (hp_ws_at hj) e
theorem hp_blind {g : hp_G} {z0 N : Nat} {ad : Nat → Nat} {F : Nat → va_E} {av : List Value} : FrameBlind (va_Pc av (hp_B g z0 N ad F)) := by
  intro a U gf mk h
  obtain ⟨h1, h2, h3, h4, h5, h6⟩ := h
  exact ⟨h1, h2, h3, h4, va_K.moved (u := U) (U := U.calling gf mk a) (Vm.Alike.refl U.vm) h5, hp_N.same (s := U) (U := U.calling gf mk a) h6 rfl⟩
theorem hp_W.B {g : hp_G} {z0 N : Nat} {ad : Nat → Nat} {F : Nat → va_E} {H0 H : Heap} {locs : List Loc} {s U : State} (h : hp_W g z0 N ad F H0 H locs) (hK : hp_K g s) (hU : U.heap = H) (hW : s.WarmedH U.vm) : hp_B g z0 N ad F U :=
  ⟨by rw [hU]; exact h.1, h.2.1, by rw [hU]; exact Nat.le_trans h.2.2.2 h.2.2.1.1, hK.warm hW⟩
/-! contracts: int, long, nothing, a reference or null -/
abbrev hp_Mi (l : Launch) (g : hp_G) (z0 N : Nat) (ad : Nat → Nat) (y : MethodName) (ws : List Cond) (rm : Room) (av : List Value) (F : Nat → va_E) (post : Int32 → (Nat → va_E) → Prop) : Prop := Met l y ws rm (va_Pc av (hp_B g z0 N ad F)) (va_Qi post (hp_B g z0 N ad) (hp_A z0)) 0 0 (hp_A z0)
abbrev hp_Ml (l : Launch) (g : hp_G) (z0 N : Nat) (ad : Nat → Nat) (y : MethodName) (ws : List Cond) (rm : Room) (av : List Value) (F : Nat → va_E) (post : Int64 → (Nat → va_E) → Prop) : Prop := Met l y ws rm (va_Pc av (hp_B g z0 N ad F)) (va_Ql post (hp_B g z0 N ad) (hp_A z0)) 0 0 (hp_A z0)
abbrev hp_Mv (l : Launch) (g : hp_G) (z0 N : Nat) (ad : Nat → Nat) (y : MethodName) (ws : List Cond) (rm : Room) (av : List Value) (F : Nat → va_E) (post : (Nat → va_E) → Prop) : Prop := Met l y ws rm (va_Pc av (hp_B g z0 N ad F)) (va_Qv post (hp_B g z0 N ad) (hp_A z0)) 0 0 (hp_A z0)
abbrev hp_Mq (l : Launch) (g : hp_G) (z0 N : Nat) (ad : Nat → Nat) (y : MethodName) (ws : List Cond) (rm : Room) (av : List Value) (F : Nat → va_E) (post : Option Nat → (Nat → va_E) → Prop) : Prop := Met l y ws rm (va_Pc av (hp_B g z0 N ad F)) (va_Qq post (hp_B g z0 N ad) (hp_A z0)) 0 0 (hp_A z0)
/-- a method's start -/
theorem hp_enter {l : Launch} {g : hp_G} {z0 N : Nat} {ad : Nat → Nat} {F : Nat → va_E} {y : MethodName} {ws ws' : List Cond} {rm : Room} {av : List Value} {Qc : Array Value → State → Outcome → State → Prop} {mc ms : Nat} {free : Addr → Prop} {cc : ByteArray} {maxL : Nat} {ret : Option FieldType}
    (hy : plainName y.cls = true) (hw : ws = Cond.code y cc maxL ret :: ws') (hle : (lg_sl av).length ≤ maxL)
    (body : ∀ (p : Program) (e : Env) (s : State) (m : MethodId) (below : List Frame) (meth : Method) (c : Code), CallFix p m c cc maxL s av.toArray ws y.cls → meth.sig.returnType = ret → meth.locks = false → meth.name = y.name → hp_K g s → hp_W g z0 N ad F s.heap s.heap [] →
      ∀ ls : Array Slot, lv_has ls maxL (lv_args 0 av) → W p l e rm s m av.toArray below meth c s.heap [] 0 0 (MQ below Qc av.toArray s mc ms free) (F0 m 0 ls [])) : Met l y ws rm (va_Pc av (hp_B g z0 N ad F)) Qc mc ms free := by
  refine Met.ofW (cc := cc) (maxL := maxL) (ret := ret) hy hw ?_
  intro p e s m args below meth c s₁ B hml hv
  obtain ⟨rfl, hP, hD, hz, hK⟩ := hv
  have hts := atoms_spec (ws := ws) B.pre
  have hown : s.vm.findClass y.cls = some m.cls := findClass_of_methodNamed B.named
  have hl := lv_entry av (n := maxL) hle
  rw [lg_entry_eq]
  exact body p e s m below meth c ⟨B.exec, B.bytes, hml, hown, hts⟩ B.returns B.notSynchronized (name_of_methodNamed B.named B.method).1 hK ⟨hP, hD, va_S.rf, hz⟩ _ hl
section HP
variable {p : Program} {l : Launch} {e : Env} {R : Room} {s : State} {m : MethodId} {args : Array Value} {below : List Frame} {meth : Method} {c : Code} {H : Heap} {locs : List Loc} {cells slots : Nat} {Q : State → Prop}
variable {cc : ByteArray} {pc nL index : Nat} {ls : Array Slot} {rest st0 : List Value} {own : String} {Ts : List Cond} {H0 : Heap} {g : hp_G} {z0 N : Nat} {ad : Nat → Nat} {F : Nat → va_E}
theorem hp_get (S : CallFix p m c cc nL s args Ts own) (hK : hp_K g s) (hW : hp_W g z0 N ad F H0 H locs) (i : Nat) {a : Nat} (hi : i < N) (ha : ad i = a) {ci : Nat} {fs : List Value} (hF : F i = .inr (ci, fs)) {C : String} {T : u_T} {n : Nat} (hc : vwCl[ci]? = some (C, T, n)) (hin : ∀ w ∈ u_ws C T n, w ∈ Ts) (k : Nat) (hk : k < n) (hlink : (Cond.fieldLink own index (T k).1 (T k).2.1 (T k).2.2.1).before args s = true) {v : Value} (hv : fs[k]? = some v) (hdg : decode cc pc = .ok (.getfield index, 3))
    (kk : W p l e R s m args below meth c H locs cells slots Q (F0 m (pc + 3) ls (v :: rest))) : W p l e R s m args below meth c H locs cells slots Q (F0 m pc ls (.ref a :: rest)) := by
  subst ha
  exact va_get S.1 S.2.1 S.2.2.2.2 hin S.2.2.2.1 hK.1 hW.1 i (by rw [hp_ws_at hi, hF]) hc k hk hlink (fun _ h => h) hv hdg kk
theorem hp_getN (S : CallFix p m c cc nL s args Ts own) (hK : hp_K g s) (hW : hp_W g z0 N ad F H0 H locs) (i : Nat) {a : Nat} (hi : i < N) (ha : ad i = a) {ci : Nat} {fs : List Value} (hF : F i = .inr (ci, fs)) {C : String} {T : u_T} {n : Nat} (hc : vwCl[ci]? = some (C, T, n)) (hin : ∀ w ∈ u_ws C T n, w ∈ Ts) (k : Nat) (hk : k < n) {host : String} (hlink : (own, index, (T k).1, (T k).2.1, (T k).2.2.1, host) ∈ hp_fl) {v : Value} (hv : fs[k]? = some v) (hdg : decode cc pc = .ok (.getfield index, 3))
    (kk : W p l e R s m args below meth c H locs cells slots Q (F0 m (pc + 3) ls (v :: rest))) : W p l e R s m args below meth c H locs cells slots Q (F0 m pc ls (.ref a :: rest)) := by
  subst ha
  exact va_getN S.1 S.2.1 S.2.2.2.2 hin S.2.2.2.1 hK.1 hW.1 i (by rw [hp_ws_at hi, hF]) hc k hk (va_Nw.use rfl (hK.2.1 _ hlink)) (fun _ h => h) hv hdg kk
theorem hp_W.up (hW : hp_W g z0 N ad F H0 H locs) {i : Nat} (hi : i < N) {e2 : va_E} {H1 : Heap} {locs1 : List Loc} (h1 : va_P g.1 vwCl ((hp_ws N ad F).set i (ad i, e2)) H1) (h2 : va_D (hp_A z0) ((hp_ws N ad F).set i (ad i, e2))) (h3 : va_S (hp_A z0) H0 H1 locs1) : hp_W g z0 N ad (va_up F i e2) H0 H1 locs1 := by
  rw [hp_ws_set hi] at h1 h2
  exact ⟨h1, h2, h3, hW.2.2.2⟩
theorem hp_put (S : CallFix p m c cc nL s args Ts own) (hK : hp_K g s) (hW : hp_W g z0 N ad F H0 H locs) (i : Nat) {a : Nat} (hi : i < N) (ha : ad i = a) {ci : Nat} {fs : List Value} (hF : F i = .inr (ci, fs)) {C : String} {T : u_T} {n : Nat} (hc : vwCl[ci]? = some (C, T, n)) (hin : ∀ w ∈ u_ws C T n, w ∈ Ts) {ty0 : Nat → FieldType} (hty : ∀ k, k < n → parseFieldDescriptor (T k).2.2.1 = some (ty0 k)) (hnm : ∀ a, a < n → ∀ b, b < n → a ≠ b → (T a).2.1 ≠ (T b).2.1) (k : Nat) (hk : k < n) (hlink : (Cond.fieldLink own index (T k).1 (T k).2.1 (T k).2.2.1).before args s = true) (hfin : (T k).2.2.2 = false) {v : Value} (hn : narrow (ty0 k) v = v) (hfit : fits (ty0 k) v = true) (hl : k < fs.length) (hdg : decode cc pc = .ok (.putfield index, 3))
    (kk : ∀ (H1 : Heap) (locs1 : List Loc), hp_W g z0 N ad (va_up F i (.inr (ci, fs.set k v))) H0 H1 locs1 → W p l e R s m args below meth c H1 locs1 cells slots Q (F0 m (pc + 3) ls rest)) : W p l e R s m args below meth c H locs cells slots Q (F0 m pc ls (v :: .ref a :: rest)) := by
  subst ha
  exact va_put S.1 S.2.1 S.2.2.2.2 hin ty0 hty hnm S.2.2.2.1 hK.1 hW.1 hW.2.1 hW.2.2.1 i (by rw [hp_ws_at hi, hF]) hc k hk hlink (fun _ h => h) hfin (hty k hk) hn hfit hl hdg (fun H1 locs1 h1 h2 h3 => kk H1 locs1 (hW.up hi h1 h2 h3))
theorem hp_putN (S : CallFix p m c cc nL s args Ts own) (hK : hp_K g s) (hW : hp_W g z0 N ad F H0 H locs) (i : Nat) {a : Nat} (hi : i < N) (ha : ad i = a) {ci : Nat} {fs : List Value} (hF : F i = .inr (ci, fs)) {C : String} {T : u_T} {n : Nat} (hc : vwCl[ci]? = some (C, T, n)) (hin : ∀ w ∈ u_ws C T n, w ∈ Ts) {ty0 : Nat → FieldType} (hty : ∀ k, k < n → parseFieldDescriptor (T k).2.2.1 = some (ty0 k)) (hnm : ∀ a, a < n → ∀ b, b < n → a ≠ b → (T a).2.1 ≠ (T b).2.1) (k : Nat) (hk : k < n) {host : String} (hlink : (own, index, (T k).1, (T k).2.1, (T k).2.2.1, host) ∈ hp_fl) (hfin : (T k).2.2.2 = false) {v : Value} (hn : narrow (ty0 k) v = v) (hfit : fits (ty0 k) v = true) (hl : k < fs.length) (hdg : decode cc pc = .ok (.putfield index, 3))
    (kk : ∀ (H1 : Heap) (locs1 : List Loc), hp_W g z0 N ad (va_up F i (.inr (ci, fs.set k v))) H0 H1 locs1 → W p l e R s m args below meth c H1 locs1 cells slots Q (F0 m (pc + 3) ls rest)) : W p l e R s m args below meth c H locs cells slots Q (F0 m pc ls (v :: .ref a :: rest)) := by
  subst ha
  exact va_putN S.1 S.2.1 S.2.2.2.2 hin ty0 hty hnm S.2.2.2.1 hK.1 hW.1 hW.2.1 hW.2.2.1 i (by rw [hp_ws_at hi, hF]) hc k hk (va_Nw.use rfl (hK.2.1 _ hlink)) (fun _ h => h) hfin (hty k hk) hn hfit hl hdg (fun H1 locs1 h1 h2 h3 => kk H1 locs1 (hW.up hi h1 h2 h3))
theorem hp_putF (S : CallFix p m c cc nL s args Ts own) (hK : hp_K g s) (hW : hp_W g z0 N ad F H0 H locs) (i : Nat) {a : Nat} (hi : i < N) (ha : ad i = a) {ci : Nat} {fs : List Value} (hF : F i = .inr (ci, fs)) {C : String} {T : u_T} {n : Nat} (hc : vwCl[ci]? = some (C, T, n)) (hin : ∀ w ∈ u_ws C T n, w ∈ Ts) {ty0 : Nat → FieldType} (hty : ∀ k, k < n → parseFieldDescriptor (T k).2.2.1 = some (ty0 k)) (hnm : ∀ a, a < n → ∀ b, b < n → a ≠ b → (T a).2.1 ≠ (T b).2.1) (k : Nat) (hk : k < n) (hlink : (Cond.fieldLink own index (T k).1 (T k).2.1 (T k).2.2.1).before args s = true) (hfin : (T k).2.2.2 = true) (hini : meth.name = "<init>") (hdecl : (T k).1 = own) {v : Value} (hn : narrow (ty0 k) v = v) (hfit : fits (ty0 k) v = true) (hl : k < fs.length) (hdg : decode cc pc = .ok (.putfield index, 3))
    (kk : ∀ (H1 : Heap) (locs1 : List Loc), hp_W g z0 N ad (va_up F i (.inr (ci, fs.set k v))) H0 H1 locs1 → W p l e R s m args below meth c H1 locs1 cells slots Q (F0 m (pc + 3) ls rest)) : W p l e R s m args below meth c H locs cells slots Q (F0 m pc ls (v :: .ref a :: rest)) := by
  subst ha
  exact va_putF S.1 S.2.1 S.2.2.2.2 hin ty0 hty hnm S.2.2.2.1 hK.1 hW.1 hW.2.1 hW.2.2.1 i (by rw [hp_ws_at hi, hF]) hc k hk hlink (fun _ h => h) hfin hini hdecl (hty k hk) hn hfit hl hdg (fun H1 locs1 h1 h2 h3 => kk H1 locs1 (hW.up hi h1 h2 h3))
theorem hp_iald (S : CallFix p m c cc nL s args Ts own) (hK : hp_K g s) (hW : hp_W g z0 N ad F H0 H locs) (i : Nat) {a : Nat} (hi : i < N) (ha : ad i = a) {n : Nat} {f : Nat → Int32} (hF : F i = .inl (g.2 0, n, .inl f)) {j : Int32} (hin : vp_in j n) (hdg : decode cc pc = .ok (.iaload, 1))
    (kk : W p l e R s m args below meth c H locs cells slots Q (F0 m (pc + 1) ls (.int (f j.toNatClampNeg) :: rest))) : W p l e R s m args below meth c H locs cells slots Q (F0 m pc ls (.int j :: .ref a :: rest)) := by
  subst ha
  exact va_iald S.1 S.2.1 hK.1 hW.1 i 0 (by rw [hp_ws_at hi, hF]) rfl hin hdg kk
theorem hp_iast (S : CallFix p m c cc nL s args Ts own) (hK : hp_K g s) (hW : hp_W g z0 N ad F H0 H locs) (i : Nat) {a : Nat} (hi : i < N) (ha : ad i = a) {n : Nat} {f : Nat → Int32} (hF : F i = .inl (g.2 0, n, .inl f)) {j x : Int32} (hin : vp_in j n) (hdg : decode cc pc = .ok (.iastore, 1))
    (kk : ∀ (H1 : Heap) (locs1 : List Loc), hp_W g z0 N ad (va_up F i (.inl (g.2 0, n, .inl (upd f j.toNatClampNeg x)))) H0 H1 locs1 → W p l e R s m args below meth c H1 locs1 cells slots Q (F0 m (pc + 1) ls rest)) : W p l e R s m args below meth c H locs cells slots Q (F0 m pc ls (.int x :: .int j :: .ref a :: rest)) := by
  subst ha
  exact va_iast S.1 S.2.1 hK.1 hW.1 hW.2.1 hW.2.2.1 i 0 (by rw [hp_ws_at hi, hF]) rfl hin hdg (fun H1 locs1 h1 h2 h3 => kk H1 locs1 (hW.up hi h1 h2 h3))
theorem hp_alen (S : CallFix p m c cc nL s args Ts own) (hK : hp_K g s) (hW : hp_W g z0 N ad F H0 H locs) (i : Nat) {a : Nat} (hi : i < N) (ha : ad i = a) {t0 : Nat} {cA : ClassId} {x : vp_A} (hF : F i = .inl (cA, x)) {ty : FieldType} (ht : (hp_t g.2)[t0]? = some (cA, ty)) (hdg : decode cc pc = .ok (.arraylength, 1))
    (kk : W p l e R s m args below meth c H locs cells slots Q (F0 m (pc + 1) ls (.int (nI x.1) :: rest))) : W p l e R s m args below meth c H locs cells slots Q (F0 m pc ls (.ref a :: rest)) := by
  subst ha
  exact va_alen S.1 S.2.1 hK.1 hW.1 i t0 (by rw [hp_ws_at hi, hF]) ht rfl hdg kk
theorem hp_aald (S : CallFix p m c cc nL s args Ts own) (hK : hp_K g s) (hW : hp_W g z0 N ad F H0 H locs) (i t0 : Nat) {a : Nat} (hi : i < N) (ha : ad i = a) {cA : ClassId} {n : Nat} {f : Nat → Option Nat} (hF : F i = .inl (cA, n, .inr (.inr (.inr (.inr f))))) {C : String} (ht : (hp_t g.2)[t0]? = some (cA, .object C)) {j : Int32} (hin : vp_in j n) (hdg : decode cc pc = .ok (.aaload, 1))
    (kk : W p l e R s m args below meth c H locs cells slots Q (F0 m (pc + 1) ls (va_rf (f j.toNatClampNeg) :: rest))) : W p l e R s m args below meth c H locs cells slots Q (F0 m pc ls (.int j :: .ref a :: rest)) := by
  subst ha
  exact va_aldq S.1 S.2.1 hK.1 hW.1 i t0 (by rw [hp_ws_at hi, hF]) ht hin hdg kk
theorem hp_aast (S : CallFix p m c cc nL s args Ts own) (hK : hp_K g s) (hW : hp_W g z0 N ad F H0 H locs) (i t0 i2 : Nat) {a a2 : Nat} (hi : i < N) (ha : ad i = a) (hi2 : i2 < N) (ha2 : ad i2 = a2) {cA : ClassId} {n : Nat} {f : Nat → Option Nat} (hF : F i = .inl (cA, n, .inr (.inr (.inr (.inr f))))) {ci : Nat} {fs : List Value} (hF2 : F i2 = .inr (ci, fs)) {r : vw_C} (hc : vwCl[ci]? = some r) (ht : (hp_t g.2)[t0]? = some (cA, .object r.1)) {j : Int32} (hin : vp_in j n) (hdg : decode cc pc = .ok (.aastore, 1))
    (kk : ∀ (H1 : Heap) (locs1 : List Loc), hp_W g z0 N ad (va_up F i (.inl (cA, n, .inr (.inr (.inr (.inr (va_up f j.toNatClampNeg (some a2)))))))) H0 H1 locs1 → W p l e R s m args below meth c H1 locs1 cells slots Q (F0 m (pc + 1) ls rest)) : W p l e R s m args below meth c H locs cells slots Q (F0 m pc ls (.ref a2 :: .int j :: .ref a :: rest)) := by
  subst ha
  subst ha2
  exact va_astq S.1 S.2.1 hK.1 hW.1 hW.2.1 hW.2.2.1 i t0 i2 ci (by rw [hp_ws_at hi, hF]) ht (by rw [hp_ws_at hi2, hF2]) hc hin hdg (fun H1 locs1 h1 h2 h3 => kk H1 locs1 (hW.up hi h1 h2 h3))
/-! answers -/
theorem hp_reti (S : CallFix p m c cc nL s args Ts own) (hK : hp_K g s) (hW : hp_W g z0 N ad F s.heap H locs) {post : Int32 → (Nat → va_E) → Prop} {v : Int32} (hr : meth.sig.returnType = some .int) (hlk : meth.locks = false) (hdg : decode cc pc = .ok (.ireturn, 1)) (hq : post v F) : W p l e R s m args below meth c H locs cells slots (MQ below (va_Qi post (hp_B g z0 N ad) (hp_A z0)) args s cells slots (hp_A z0)) (F0 m pc ls [.int v]) :=
  W.iret (v := v) S.1 S.2.1 hr (fun t ht hw => ⟨⟨v, F, rfl, hq, hW.B hK ht hw⟩, hW.2.2.1.F ht⟩) hW.2.2.1.2.2 hdg hlk
theorem hp_retz (S : CallFix p m c cc nL s args Ts own) (hK : hp_K g s) (hW : hp_W g z0 N ad F s.heap H locs) {post : Int32 → (Nat → va_E) → Prop} {v : Int32} (hr : meth.sig.returnType = some .boolean) (hlk : meth.locks = false) (hn : narrow .boolean (.int v) = .int v) (hdg : decode cc pc = .ok (.ireturn, 1)) (hq : post v F) : W p l e R s m args below meth c H locs cells slots (MQ below (va_Qi post (hp_B g z0 N ad) (hp_A z0)) args s cells slots (hp_A z0)) (F0 m pc ls [.int v]) :=
  W.zret (v := v) S.1 S.2.1 hr hn (fun t ht hw => ⟨⟨v, F, rfl, hq, hW.B hK ht hw⟩, hW.2.2.1.F ht⟩) hW.2.2.1.2.2 hdg hlk
theorem hp_retl (S : CallFix p m c cc nL s args Ts own) (hK : hp_K g s) (hW : hp_W g z0 N ad F s.heap H locs) {post : Int64 → (Nat → va_E) → Prop} {v : Int64} (hr : meth.sig.returnType = some .long) (hlk : meth.locks = false) (hdg : decode cc pc = .ok (.lreturn, 1)) (hq : post v F) : W p l e R s m args below meth c H locs cells slots (MQ below (va_Ql post (hp_B g z0 N ad) (hp_A z0)) args s cells slots (hp_A z0)) (F0 m pc ls [.long v]) :=
  W.lret (v := v) S.1 S.2.1 hr (fun t ht hw => ⟨⟨v, F, rfl, hq, hW.B hK ht hw⟩, hW.2.2.1.F ht⟩) hW.2.2.1.2.2 hdg hlk
theorem hp_retv (S : CallFix p m c cc nL s args Ts own) (hK : hp_K g s) (hW : hp_W g z0 N ad F s.heap H locs) {post : (Nat → va_E) → Prop} (hr : meth.sig.returnType = none) (hlk : meth.locks = false) (hdg : decode cc pc = .ok (.return_, 1)) (hq : post F) : W p l e R s m args below meth c H locs cells slots (MQ below (va_Qv post (hp_B g z0 N ad) (hp_A z0)) args s cells slots (hp_A z0)) (F0 m pc ls []) :=
  W.vret S.1 S.2.1 hr (fun t ht hw => ⟨⟨F, rfl, hq, hW.B hK ht hw⟩, hW.2.2.1.F ht⟩) hW.2.2.1.2.2 hdg hlk
theorem hp_retq (S : CallFix p m c cc nL s args Ts own) (hK : hp_K g s) (hW : hp_W g z0 N ad F s.heap H locs) {post : Option Nat → (Nat → va_E) → Prop} {v : Option Nat} {rt : FieldType} (hr : meth.sig.returnType = some rt) (hrt : (∃ n, rt = .object n) ∨ ∃ t, rt = .array t) (hlk : meth.locks = false) (hdg : decode cc pc = .ok (.areturn, 1)) (hq : post v F) : W p l e R s m args below meth c H locs cells slots (MQ below (va_Qq post (hp_B g z0 N ad) (hp_A z0)) args s cells slots (hp_A z0)) (F0 m pc ls [va_rf v]) :=
  W.aret (v := va_rf v) S.1 S.2.1 hr hrt (va_rf_or v) (fun t ht hw => ⟨⟨v, F, rfl, hq, hW.B hK ht hw⟩, hW.2.2.1.F ht⟩) hW.2.2.1.2.2 hdg hlk
/-! calls: what a callee starts with -/
theorem hp_preS (hK : hp_K g s) (hW : hp_W g z0 N ad F H0 H locs) {As : List Value} : PreS s H (va_Pc As (hp_B g z0 N ad F)) As := ⟨hp_blind, fun U hU hw => ⟨rfl, hW.B hK hU hw⟩⟩
theorem hp_preV (hK : hp_K g s) (hW : hp_W g z0 N ad F H0 H locs) {As : List Value} {i a : Nat} (hi : i < N) (ha : ad i = a) {ci : Nat} {fs : List Value} (hF : F i = .inr (ci, fs)) {q : vw_C} (hc : vwCl[ci]? = some q) : PreV s H q.1 a (va_Pc (.ref a :: As) (hp_B g z0 N ad F)) As := by
  subst ha
  exact ⟨hp_blind, va_recv hK.1 hW.1 (q0 := i) hc (by rw [hp_ws_at hi, hF]), fun U hU hw => ⟨rfl, hW.B hK hU hw⟩⟩
theorem hp_goi {post : Int32 → (Nat → va_E) → Prop} {a : Array Value} (hW : hp_W g z0 N ad F H0 H locs) (hr : va_Run p l e R s m args below meth c H locs cells slots 0 0 (F0 m pc ls st0) rest (va_Qi post (hp_B g z0 N ad) (hp_A z0) a) (hp_A z0))
    (kk : ∀ (r : Int32) (F' : Nat → va_E) (H1 : Heap) (locs1 : List Loc), post r F' → hp_W g z0 N ad F' H0 H1 locs1 → W p l e R s m args below meth c H1 locs1 cells slots Q (F0 m (pc + 3) ls (.int r :: rest))) : W p l e R s m args below meth c H locs cells slots Q (F0 m pc ls st0) :=
  va_calli hr hW.2.2.1 (fun _ _ h => h) (fun _ h => h) (fun r u t H1 locs1 ht _ hp hB _ _ hS => kk r u H1 locs1 hp ⟨by rw [← ht]; exact hB.1, hB.2.1, hS, hW.2.2.2⟩)
theorem hp_gol {post : Int64 → (Nat → va_E) → Prop} {a : Array Value} (hW : hp_W g z0 N ad F H0 H locs) (hr : va_Run p l e R s m args below meth c H locs cells slots 0 0 (F0 m pc ls st0) rest (va_Ql post (hp_B g z0 N ad) (hp_A z0) a) (hp_A z0))
    (kk : ∀ (r : Int64) (F' : Nat → va_E) (H1 : Heap) (locs1 : List Loc), post r F' → hp_W g z0 N ad F' H0 H1 locs1 → W p l e R s m args below meth c H1 locs1 cells slots Q (F0 m (pc + 3) ls (.long r :: rest))) : W p l e R s m args below meth c H locs cells slots Q (F0 m pc ls st0) :=
  va_calll hr hW.2.2.1 (fun _ _ h => h) (fun _ h => h) (fun r u t H1 locs1 ht _ hp hB _ _ hS => kk r u H1 locs1 hp ⟨by rw [← ht]; exact hB.1, hB.2.1, hS, hW.2.2.2⟩)
theorem hp_gov {post : (Nat → va_E) → Prop} {a : Array Value} (hW : hp_W g z0 N ad F H0 H locs) (hr : va_Run p l e R s m args below meth c H locs cells slots 0 0 (F0 m pc ls st0) rest (va_Qv post (hp_B g z0 N ad) (hp_A z0) a) (hp_A z0))
    (kk : ∀ (F' : Nat → va_E) (H1 : Heap) (locs1 : List Loc), post F' → hp_W g z0 N ad F' H0 H1 locs1 → W p l e R s m args below meth c H1 locs1 cells slots Q (F0 m (pc + 3) ls rest)) : W p l e R s m args below meth c H locs cells slots Q (F0 m pc ls st0) :=
  va_callv hr hW.2.2.1 (fun _ _ h => h) (fun _ h => h) (fun u t H1 locs1 ht _ hp hB _ _ hS => kk u H1 locs1 hp ⟨by rw [← ht]; exact hB.1, hB.2.1, hS, hW.2.2.2⟩)
theorem hp_goq {post : Option Nat → (Nat → va_E) → Prop} {a : Array Value} (hW : hp_W g z0 N ad F H0 H locs) (hr : va_Run p l e R s m args below meth c H locs cells slots 0 0 (F0 m pc ls st0) rest (va_Qq post (hp_B g z0 N ad) (hp_A z0) a) (hp_A z0))
    (kk : ∀ (r : Option Nat) (F' : Nat → va_E) (H1 : Heap) (locs1 : List Loc), post r F' → hp_W g z0 N ad F' H0 H1 locs1 → W p l e R s m args below meth c H1 locs1 cells slots Q (F0 m (pc + 3) ls (va_rf r :: rest))) : W p l e R s m args below meth c H locs cells slots Q (F0 m pc ls st0) :=
  va_callq hr hW.2.2.1 (fun _ _ h => h) (fun _ h => h) (fun r u t H1 locs1 ht _ hp hB _ _ hS => kk r u H1 locs1 hp ⟨by rw [← ht]; exact hB.1, hB.2.1, hS, hW.2.2.2⟩)
end HP
section HPM
variable {l : Launch} {g : hp_G} {z0 N : Nat} {ad : Nat → Nat} {F : Nat → va_E} {y : MethodName} {ws : List Cond} {rm : Room} {av : List Value}
theorem hp_imp_i {post post' : Int32 → (Nat → va_E) → Prop} (h : hp_Mi l g z0 N ad y ws rm av F post) (hq : ∀ v F', post v F' → post' v F') : hp_Mi l g z0 N ad y ws rm av F post' :=
  MetFree.mono h (fun _ _ h => h) (fun _ _ _ _ _ h => h) (fun _ _ _ _ _ ⟨⟨⟨r, u, h1, h2, h3⟩, h4⟩, h5⟩ => ⟨⟨⟨r, u, h1, hq r u h2, h3⟩, h4⟩, h5⟩)
theorem hp_imp_l {post post' : Int64 → (Nat → va_E) → Prop} (h : hp_Ml l g z0 N ad y ws rm av F post) (hq : ∀ v F', post v F' → post' v F') : hp_Ml l g z0 N ad y ws rm av F post' :=
  MetFree.mono h (fun _ _ h => h) (fun _ _ _ _ _ h => h) (fun _ _ _ _ _ ⟨⟨⟨r, u, h1, h2, h3⟩, h4⟩, h5⟩ => ⟨⟨⟨r, u, h1, hq r u h2, h3⟩, h4⟩, h5⟩)
theorem hp_imp_v {post post' : (Nat → va_E) → Prop} (h : hp_Mv l g z0 N ad y ws rm av F post) (hq : ∀ F', post F' → post' F') : hp_Mv l g z0 N ad y ws rm av F post' :=
  MetFree.mono h (fun _ _ h => h) (fun _ _ _ _ _ h => h) (fun _ _ _ _ _ ⟨⟨⟨u, h1, h2, h3⟩, h4⟩, h5⟩ => ⟨⟨⟨u, h1, hq u h2, h3⟩, h4⟩, h5⟩)
end HPM
section HPZ
variable {p : Program} {l : Launch} {e : Env} {R : Room} {s : State} {m : MethodId} {args : Array Value} {below : List Frame} {meth : Method} {c : Code} {H : Heap} {locs : List Loc} {cells slots : Nat} {Q : State → Prop}
variable {cc : ByteArray} {pc nL index : Nat} {ls : Array Slot} {rest st0 : List Value} {own : String} {Ts : List Cond} {H0 : Heap} {g : hp_G} {z0 N : Nat} {ad : Nat → Nat} {F : Nat → va_E}
theorem hp_zald (S : CallFix p m c cc nL s args Ts own) (hK : hp_K g s) (hW : hp_W g z0 N ad F H0 H locs) (i : Nat) {a : Nat} (hi : i < N) (ha : ad i = a) {n : Nat} {f : Nat → Int32} (hF : F i = .inl (g.2 2, n, .inl f)) {j : Int32} (hin : vp_in j n) (hdg : decode cc pc = .ok (.baload, 1))
    (kk : W p l e R s m args below meth c H locs cells slots Q (F0 m (pc + 1) ls (.int (f j.toNatClampNeg) :: rest))) : W p l e R s m args below meth c H locs cells slots Q (F0 m pc ls (.int j :: .ref a :: rest)) := by
  subst ha
  exact va_zald S.1 S.2.1 hK.1 hW.1 i 2 (by rw [hp_ws_at hi, hF]) rfl hin hdg kk
theorem hp_zast (S : CallFix p m c cc nL s args Ts own) (hK : hp_K g s) (hW : hp_W g z0 N ad F H0 H locs) (i : Nat) {a : Nat} (hi : i < N) (ha : ad i = a) {n : Nat} {f : Nat → Int32} (hF : F i = .inl (g.2 2, n, .inl f)) {j x : Int32} (hin : vp_in j n) (hdg : decode cc pc = .ok (.bastore, 1))
    (kk : ∀ (H1 : Heap) (locs1 : List Loc), hp_W g z0 N ad (va_up F i (.inl (g.2 2, n, .inl (upd f j.toNatClampNeg (vp_nar .boolean x))))) H0 H1 locs1 → W p l e R s m args below meth c H1 locs1 cells slots Q (F0 m (pc + 1) ls rest)) : W p l e R s m args below meth c H locs cells slots Q (F0 m pc ls (.int x :: .int j :: .ref a :: rest)) := by
  subst ha
  exact va_zast S.1 S.2.1 hK.1 hW.1 hW.2.1 hW.2.2.1 i 2 (by rw [hp_ws_at hi, hF]) rfl hin hdg (fun H1 locs1 h1 h2 h3 => kk H1 locs1 (hW.up hi h1 h2 h3))
end HPZ
/-! making: the addresses follow each other -/
def hp_ad (z0 : Nat) : Nat → Nat := fun i => z0 + i
theorem hp_push {z0 N : Nat} {F : Nat → va_E} (e : va_E) : hp_ws N (hp_ad z0) F ++ [(z0 + N, e)] = hp_ws (N + 1) (hp_ad z0) (va_up F N e) := by
  rw [hp_ws_push0]
  congr 1
  funext j
  by_cases h : j = N
  · subst h
    rw [va_up_self]
    rfl
  · rw [va_up_ne _ _ h]
/-- the world in a constructor's walk: nothing lies behind its cells -/
def hp_V (g : hp_G) (z0 N : Nat) (F : Nat → va_E) (H0 H : Heap) (locs : List Loc) : Prop := hp_W g z0 N (hp_ad z0) F H0 H locs ∧ H.size = z0 + N
def hp_BV (g : hp_G) (z0 N : Nat) (F : Nat → va_E) (U : State) : Prop := hp_B g z0 N (hp_ad z0) F U ∧ U.heap.size = z0 + N
/-- a constructor that makes k cells of ks slots -/
abbrev hp_Mc (l : Launch) (g : hp_G) (z0 N : Nat) (y : MethodName) (ws : List Cond) (rm : Room) (av : List Value) (F : Nat → va_E) (k ks : Nat) (post : (Nat → va_E) → Prop) : Prop := Met l y ws rm (va_Pc av (hp_BV g z0 N F)) (va_Qv post (hp_BV g z0 (N + k)) (hp_A z0)) k ks (hp_A z0)
theorem hp_blindV {g : hp_G} {z0 N : Nat} {F : Nat → va_E} {av : List Value} : FrameBlind (va_Pc av (hp_BV g z0 N F)) := by
  intro a U gf mk h
  obtain ⟨h1, ⟨h2, h3, h4, h5, h6⟩, h7⟩ := h
  exact ⟨h1, ⟨h2, h3, h4, va_K.moved (u := U) (U := U.calling gf mk a) (Vm.Alike.refl U.vm) h5, hp_N.same (s := U) (U := U.calling gf mk a) h6 rfl⟩, h7⟩
theorem hp_enterV {l : Launch} {g : hp_G} {z0 N : Nat} {F : Nat → va_E} {y : MethodName} {ws ws' : List Cond} {rm : Room} {av : List Value} {Qc : Array Value → State → Outcome → State → Prop} {mc ms : Nat} {free : Addr → Prop} {cc : ByteArray} {maxL : Nat} {ret : Option FieldType}
    (hy : plainName y.cls = true) (hw : ws = Cond.code y cc maxL ret :: ws') (hle : (lg_sl av).length ≤ maxL)
    (body : ∀ (p : Program) (e : Env) (s : State) (m : MethodId) (below : List Frame) (meth : Method) (c : Code), CallFix p m c cc maxL s av.toArray ws y.cls → meth.sig.returnType = ret → meth.locks = false → meth.name = y.name → hp_K g s → hp_V g z0 N F s.heap s.heap [] →
      ∀ ls : Array Slot, lv_has ls maxL (lv_args 0 av) → W p l e rm s m av.toArray below meth c s.heap [] 0 0 (MQ below Qc av.toArray s mc ms free) (F0 m 0 ls [])) : Met l y ws rm (va_Pc av (hp_BV g z0 N F)) Qc mc ms free := by
  refine Met.ofW (cc := cc) (maxL := maxL) (ret := ret) hy hw ?_
  intro p e s m args below meth c s₁ B hml hv
  obtain ⟨rfl, ⟨hP, hD, hz, hK⟩, hsz⟩ := hv
  have hts := atoms_spec (ws := ws) B.pre
  have hown : s.vm.findClass y.cls = some m.cls := findClass_of_methodNamed B.named
  have hl := lv_entry av (n := maxL) hle
  rw [lg_entry_eq]
  exact body p e s m below meth c ⟨B.exec, B.bytes, hml, hown, hts⟩ B.returns B.notSynchronized (name_of_methodNamed B.named B.method).1 hK ⟨⟨hP, hD, va_S.rf, hz⟩, hsz⟩ _ hl
section HPV
variable {p : Program} {l : Launch} {e : Env} {R : Room} {s : State} {m : MethodId} {args : Array Value} {below : List Frame} {meth : Method} {c : Code} {H : Heap} {locs : List Loc} {cells slots : Nat} {Q : State → Prop}
variable {cc : ByteArray} {pc nL index : Nat} {ls : Array Slot} {rest st0 : List Value} {own : String} {Ts : List Cond} {H0 : Heap} {g : hp_G} {z0 N : Nat} {F : Nat → va_E}
/-- a cell more -/
theorem hp_V.more (hV : hp_V g z0 N F H0 H locs) {e2 : va_E} {H1 : Heap} (z1 : H1.size = H.size + 1) (o1 : ∀ q : Nat, q < H.size → H1[q]? = H[q]?) (he : va_at g.1 vwCl (z0 + N, e2) H1) : hp_V g z0 (N + 1) (va_up F N e2) H0 H1 locs := by
  obtain ⟨⟨hP, hD, hS, hz⟩, hsz⟩ := hV
  have hk : ∀ (k : Nat) (x : Nat × va_E), (hp_ws N (hp_ad z0) F)[k]? = some x → H1[x.1]? = H[x.1]? := fun k x hx => o1 x.1 ((hP k x hx).lt)
  have hP1 : va_P g.1 vwCl (hp_ws N (hp_ad z0) F ++ [(z0 + N, e2)]) H1 := (hP.kept hk).app (fun k x hx => by
    have hz : k < 1 := (List.getElem?_eq_some_iff.mp hx).1
    rw [show k = 0 by omega] at hx
    cases hx
    exact he)
  have hD1 : va_D (hp_A z0) (hp_ws N (hp_ad z0) F ++ [(z0 + N, e2)]) := hD.push hP hsz.symm (Nat.le_add_right _ _)
  rw [hp_push] at hP1 hD1
  exact ⟨⟨hP1, hD1, ⟨Nat.le_trans hS.1 (by omega), fun x h1 h2 => (o1 x (Nat.lt_of_lt_of_le h1 hS.1)).trans (hS.2.1 x h1 h2), hS.2.2⟩, hz⟩, by omega⟩
theorem hp_new (S : CallFix p m c cc nL s args Ts own) (hK : hp_K g s) (hV : hp_V g z0 N F H0 H locs) {C : String} {T : u_T} {n ci : Nat} (hc : vwCl[ci]? = some (C, T, n)) (hin : ∀ w ∈ u_ws C T n, w ∈ Ts) {ty0 : Nat → FieldType} (hty : ∀ k, k < n → parseFieldDescriptor (T k).2.2.1 = some (ty0 k)) (hcl : (Cond.classLink own index C).before args s = true) (hinst : (Cond.instantiable C n).before args s = true) (hini : (Cond.initialized C).before args s = true) {fs : List Value} (hfs : ∀ j, j < n → defaultValue (ty0 j) = vp_V fs j) (hcells : cells + 1 ≤ R.cells) (hslots : slots + n ≤ R.slots) (hdg : decode cc pc = .ok (.new index, 3))
    (kk : ∀ (H1 : Heap), hp_V g z0 (N + 1) (va_up F N (.inr (ci, fs))) H0 H1 locs → W p l e R s m args below meth c H1 locs (cells + 1) (slots + n) Q (F0 m (pc + 3) ls (.ref (hp_ad z0 N) :: rest))) : W p l e R s m args below meth c H locs cells slots Q (F0 m pc ls rest) := by
  have hKn := hK.1.1 ci _ hc
  refine W.newcK S.1 S.2.1 S.2.2.2.1 hcl hinst hini rfl hdg hcells hslots hKn.2.1 hV.2 fun H1 kC hkC e1 z1 o1 => ?_
  exact kk H1 (hV.more (by rw [hV.2]; exact z1) (fun q hq => o1 q (by rw [← hV.2]; exact hq)) ⟨_, hc, (u_born ty0 S.2.2.2.2 hin hKn hkC e1 hty).to hfs⟩)
theorem hp_newi (S : CallFix p m c cc nL s args Ts own) (hK : hp_K g s) (hV : hp_V g z0 N F H0 H locs) (harr : (Cond.arrayClass .int).before args s = true) {n : Int32} {N' : Nat} (hn : ¬ n < 0) (hN : n.toNatClampNeg = N') (hbytes : N' * 4 ≤ 536870912) (hcells : cells + 1 ≤ R.cells) (hslots : slots + N' ≤ R.slots) (hdg : decode cc pc = .ok (.newarray .int, 2))
    (kk : ∀ (H1 : Heap), hp_V g z0 (N + 1) (va_up F N (.inl (g.2 0, N', .inl (fun _ => 0)))) H0 H1 locs → W p l e R s m args below meth c H1 locs (cells + 1) (slots + N') Q (F0 m (pc + 2) ls (.ref (hp_ad z0 N) :: rest))) : W p l e R s m args below meth c H locs cells slots Q (F0 m pc ls (.int n :: rest)) := by
  refine va_newaK (atype := .int) S.1 S.2.1 harr rfl hdg rfl hn hN hbytes hcells hslots hV.2 fun H1 cA e1 z1 o1 hAr hNm => ?_
  have hc2 : s.vm.findClass ("[" ++ FieldType.int.toString) = some (g.2 0) := (hK.1.2 0 (g.2 0, .int) rfl).2
  have hcc : cA = g.2 0 := Option.some.inj (hNm.symm.trans hc2)
  subst hcc
  exact kk H1 (hV.more (by rw [hV.2]; exact z1) (fun q hq => o1 q (by rw [← hV.2]; exact hq)) e1)
theorem hp_newz (S : CallFix p m c cc nL s args Ts own) (hK : hp_K g s) (hV : hp_V g z0 N F H0 H locs) (harr : (Cond.arrayClass .boolean).before args s = true) {n : Int32} {N' : Nat} (hn : ¬ n < 0) (hN : n.toNatClampNeg = N') (hbytes : N' * 1 ≤ 536870912) (hcells : cells + 1 ≤ R.cells) (hslots : slots + N' ≤ R.slots) (hdg : decode cc pc = .ok (.newarray .boolean, 2))
    (kk : ∀ (H1 : Heap), hp_V g z0 (N + 1) (va_up F N (.inl (g.2 2, N', .inl (fun _ => 0)))) H0 H1 locs → W p l e R s m args below meth c H1 locs (cells + 1) (slots + N') Q (F0 m (pc + 2) ls (.ref (hp_ad z0 N) :: rest))) : W p l e R s m args below meth c H locs cells slots Q (F0 m pc ls (.int n :: rest)) := by
  refine va_newaK (atype := .boolean) S.1 S.2.1 harr rfl hdg rfl hn hN hbytes hcells hslots hV.2 fun H1 cA e1 z1 o1 hAr hNm => ?_
  have hc2 : s.vm.findClass ("[" ++ FieldType.boolean.toString) = some (g.2 2) := (hK.1.2 2 (g.2 2, .boolean) rfl).2
  have hcc : cA = g.2 2 := Option.some.inj (hNm.symm.trans hc2)
  subst hcc
  exact kk H1 (hV.more (by rw [hV.2]; exact z1) (fun q hq => o1 q (by rw [← hV.2]; exact hq)) e1)
theorem hp_newq (S : CallFix p m c cc nL s args Ts own) (hK : hp_K g s) (hV : hp_V g z0 N F H0 H locs) {C : String} (ht : (hp_t g.2)[1]? = some (g.2 1, .object C)) (hclink : (Cond.classLink own index C).before args s = true) (hover : (Cond.arrayOver (.object C)).before args s = true) {n : Int32} {N' : Nat} (hn : ¬ n < 0) (hN : n.toNatClampNeg = N') (hbytes : N' * 4 ≤ 536870912) (hcells : cells + 1 ≤ R.cells) (hslots : slots + N' ≤ R.slots) (hdg : decode cc pc = .ok (.anewarray index, 3))
    (kk : ∀ (H1 : Heap), hp_V g z0 (N + 1) (va_up F N (.inl (g.2 1, N', .inr (.inr (.inr (.inr (fun _ => none))))))) H0 H1 locs → W p l e R s m args below meth c H1 locs (cells + 1) (slots + N') Q (F0 m (pc + 3) ls (.ref (hp_ad z0 N) :: rest))) : W p l e R s m args below meth c H locs cells slots Q (F0 m pc ls (.int n :: rest)) := by
  subst hN
  refine W.anew S.1 S.2.1 S.2.2.2.1 hclink hover rfl hdg rfl hn hbytes hcells hslots fun cA kA comp f1 f2 f3 f4 => ?_
  obtain ⟨kA2, comp2, -, -, -, hc2⟩ := (hK.1.2 1 (g.2 1, .object C) ht).2
  have hcc : cA = g.2 1 := Option.some.inj (f1.symm.trans hc2)
  subst hcc
  have hsz : H.size = hp_ad z0 N := hV.2
  rw [hsz]
  refine kk _ (hV.more (by rw [Array.size_push]) (fun q hq => by rw [Array.getElem?_push, if_neg (Nat.ne_of_lt hq)]) ?_)
  show (H.push _)[z0 + N]? = some (vp_cell _ _)
  rw [← hV.2, Array.getElem?_push_size, vp_cell_q, ← arrV_new]
  rfl
theorem hp_retc (S : CallFix p m c cc nL s args Ts own) (hK : hp_K g s) (hV : hp_V g z0 N F s.heap H locs) {post : (Nat → va_E) → Prop} (hr : meth.sig.returnType = none) (hlk : meth.locks = false) (hdg : decode cc pc = .ok (.return_, 1)) (hq : post F) : W p l e R s m args below meth c H locs cells slots (MQ below (va_Qv post (hp_BV g z0 N) (hp_A z0)) args s cells slots (hp_A z0)) (F0 m pc ls []) :=
  W.vret S.1 S.2.1 hr (fun t ht hw => ⟨⟨F, rfl, hq, hV.1.B hK ht hw, by rw [ht]; exact hV.2⟩, hV.1.2.2.1.F ht⟩) hV.1.2.2.1.2.2 hdg hlk
theorem hp_preC (hK : hp_K g s) (hV : hp_V g z0 N F H0 H locs) {As : List Value} : PreS s H (va_Pc As (hp_BV g z0 N F)) As := ⟨hp_blindV, fun U hU hw => ⟨rfl, hV.1.B hK hU hw, by rw [hU]; exact hV.2⟩⟩
theorem hp_goc {k ks : Nat} {post : (Nat → va_E) → Prop} {a : Array Value} (hV : hp_V g z0 N F H0 H locs) (hr : va_Run p l e R s m args below meth c H locs cells slots k ks (F0 m pc ls st0) rest (va_Qv post (hp_BV g z0 (N + k)) (hp_A z0) a) (hp_A z0))
    (kk : ∀ (F' : Nat → va_E) (H1 : Heap) (locs1 : List Loc), post F' → hp_V g z0 (N + k) F' H0 H1 locs1 → W p l e R s m args below meth c H1 locs1 (cells + k) (slots + ks) Q (F0 m (pc + 3) ls rest)) : W p l e R s m args below meth c H locs cells slots Q (F0 m pc ls st0) :=
  va_callv hr hV.1.2.2.1 (fun _ _ h => h) (fun _ h => h) (fun u t H1 locs1 ht _ hp hB _ _ hS => kk u H1 locs1 hp ⟨⟨by rw [← ht]; exact hB.1.1, hB.1.2.1, hS, hV.1.2.2.2⟩, by rw [← ht]; exact hB.2⟩)
end HPV
