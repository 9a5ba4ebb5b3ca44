/-! constructors: rows that keep the heap's size -/
def rc (k c s : Nat) : Room := { frames := k, cells := c, slots := s, locals := 30 * k }
theorem rc_ok {j k c s c2 s2 maxL : Nat} (h : j < k) (hm : maxL ≤ 11) : (rc j c s).frames + 1 ≤ (rc k c2 s2).frames ∧ 8 + (maxL + 11) + (rc j c s).locals ≤ (rc k c2 s2).locals := by
  simp only [rc]
  omega
section HPU
variable {p : Program} {l : Launch} {e : Env} {R : Room} {s : State} {m : MethodId} {args : Array Value} {below : List Frame} {meth : Method} {c : Code} {H : Heap} {locs : List Loc} {cells slots : Nat} {Q : State → Prop}
variable {cc : ByteArray} {pc nL index : Nat} {ls : Array Slot} {rest st0 : List Value} {own : String} {Ts : List Cond} {H0 : Heap} {g : hp_G} {z0 N : Nat} {F : Nat → va_E}
/-- a cell changes, the size stays -/
theorem hp_V.up (hV : hp_V g z0 N F H0 H locs) {i : Nat} (hi : i < N) {e2 : va_E} {H1 : Heap} {k : Nat} (z : H1.size = H.size) (oq : ∀ q : Nat, q ≠ hp_ad z0 i → H1[q]? = H[q]?) (he : va_at g.1 vwCl (hp_ad z0 i, e2) H1) : hp_V g z0 N (va_up F i e2) H0 H1 (locs ++ [⟨hp_ad z0 i, k⟩]) := by
  obtain ⟨⟨hP, hD, hS, hz⟩, hsz⟩ := hV
  have h0 : (hp_ws N (hp_ad z0) F)[i]? = some (hp_ad z0 i, F i) := hp_ws_at hi
  have hP1 := hP.set hD h0 he oq
  have hD1 := hD.set (e := e2) h0
  rw [hp_ws_set hi] at hP1 hD1
  exact ⟨⟨hP1, hD1, hS.put z oq (hD.2 i _ h0), hz⟩, by rw [z]; exact hsz⟩
theorem hp_putV (S : CallFix p m c cc nL s args Ts own) (hK : hp_K g s) (hV : hp_V g z0 N F H0 H locs) (i : Nat) (hi : i < N) {ci : Nat} {fs : List Value} (hF : F i = .inr (ci, fs)) {C : String} {T : u_T} {n : Nat} (hc : vwCl[ci]? = some (C, T, n)) (hin : ∀ w ∈ u_ws C T n, w ∈ Ts) {ty0 : Nat → FieldType} (hty : ∀ k, k < n → parseFieldDescriptor (T k).2.2.1 = some (ty0 k)) (hnm : ∀ a, a < n → ∀ b, b < n → a ≠ b → (T a).2.1 ≠ (T b).2.1) (k : Nat) (hk : k < n) (hlink : (Cond.fieldLink own index (T k).1 (T k).2.1 (T k).2.2.1).before args s = true) (hfin : (T k).2.2.2 = false) {v : Value} (hn : narrow (ty0 k) v = v) (hfit : fits (ty0 k) v = true) (hl : k < fs.length) (hdg : decode cc pc = .ok (.putfield index, 3))
    (kk : ∀ (H1 : Heap) (locs1 : List Loc), hp_V g z0 N (va_up F i (.inr (ci, fs.set k v))) H0 H1 locs1 → W p l e R s m args below meth c H1 locs1 cells slots Q (F0 m (pc + 3) ls rest)) : W p l e R s m args below meth c H locs cells slots Q (F0 m pc ls (v :: .ref (hp_ad z0 i) :: rest)) := by
  have hap := va_apart (own := own) S.2.2.2.2 hin ty0 hty hnm hK.1 hc
  have he : (hp_ws N (hp_ad z0) F)[i]? = some (hp_ad z0 i, .inr (ci, fs)) := by rw [hp_ws_at hi, hF]
  obtain ⟨r, h1, cell, q1, q2, q3, q4⟩ := hV.1.1 i _ he
  have hr : r = (C, T, n) := Option.some.inj (h1.symm.trans hc)
  subst hr
  obtain ⟨hS, hfc, kC, hkC, hkind⟩ := hK.1.1 ci _ hc
  obtain ⟨cf, kf, fi, f, hfi, hsl⟩ := hS k hk
  have hlay := S.2.2.2.2 _ (hin _ (u_in_lay hk))
  unfold u_lay at hlay
  rw [if_neg (by rw [hfin]; decide)] at hlay
  have hst := (u_facts hfc hkC (u_lays S.2.2.2.2 hin hk) hfi).1
  have h6 := u_store hfc hkC hkind hlay hfi (hty k hk) hn hfit
  refine W.putK S.1 S.2.1 (f := f) ⟨S.2.2.2.1, hlink, ⟨_, _, _, hfi⟩, hst⟩ (by rw [q2]; exact h6) q1 q3 (by rw [hsl]; exact k2_hasslot (q4 k hk)) rfl rfl hdg fun H' e1 e2 e3 => ?_
  rw [hsl] at e1 ⊢
  exact kk H' _ (hV.up hi e2 e3 ⟨_, hc, t_OB.to (V := updV (vp_V fs) k v) ⟨_, e1, q2, q3, t_set q4 hap hk v⟩ (fun j _ => vp_updV_set hl v j)⟩)
theorem hp_putFV (S : CallFix p m c cc nL s args Ts own) (hK : hp_K g s) (hV : hp_V g z0 N F H0 H locs) (i : Nat) (hi : i < N) {ci : Nat} {fs : List Value} (hF : F i = .inr (ci, fs)) {C : String} {T : u_T} {n : Nat} (hc : vwCl[ci]? = some (C, T, n)) (hin : ∀ w ∈ u_ws C T n, w ∈ Ts) {ty0 : Nat → FieldType} (hty : ∀ k, k < n → parseFieldDescriptor (T k).2.2.1 = some (ty0 k)) (hnm : ∀ a, a < n → ∀ b, b < n → a ≠ b → (T a).2.1 ≠ (T b).2.1) (k : Nat) (hk : k < n) (hlink : (Cond.fieldLink own index (T k).1 (T k).2.1 (T k).2.2.1).before args s = true) (hfin : (T k).2.2.2 = true) (hini : meth.name = "<init>") (hdecl : (T k).1 = own) {v : Value} (hn : narrow (ty0 k) v = v) (hfit : fits (ty0 k) v = true) (hl : k < fs.length) (hdg : decode cc pc = .ok (.putfield index, 3))
    (kk : ∀ (H1 : Heap) (locs1 : List Loc), hp_V g z0 N (va_up F i (.inr (ci, fs.set k v))) H0 H1 locs1 → W p l e R s m args below meth c H1 locs1 cells slots Q (F0 m (pc + 3) ls rest)) : W p l e R s m args below meth c H locs cells slots Q (F0 m pc ls (v :: .ref (hp_ad z0 i) :: rest)) := by
  have hap := va_apart (own := own) S.2.2.2.2 hin ty0 hty hnm hK.1 hc
  have he : (hp_ws N (hp_ad z0) F)[i]? = some (hp_ad z0 i, .inr (ci, fs)) := by rw [hp_ws_at hi, hF]
  obtain ⟨r, h1, cell, q1, q2, q3, q4⟩ := hV.1.1 i _ he
  have hr : r = (C, T, n) := Option.some.inj (h1.symm.trans hc)
  subst hr
  obtain ⟨hS, hfc, kC, hkC, hkind⟩ := hK.1.1 ci _ hc
  obtain ⟨cf, kf, fi, f, hfi, hsl⟩ := hS k hk
  have hlay := S.2.2.2.2 _ (hin _ (u_in_lay hk))
  unfold u_lay at hlay
  rw [if_pos hfin] at hlay
  have hst := (u_facts hfc hkC (u_lays S.2.2.2.2 hin hk) hfi).1
  have hcf : m.cls = cf := by
    obtain ⟨_, _, c', _, _, _, -, -, hf', -, -, -, hown2, -⟩ := Cond.laysFinal_spec hlay
    have e1 : c' = cf := by have := hfi.symm.trans hf'; simp at this; exact this.1.symm
    rw [hdecl] at hown2
    rw [← e1]; exact Option.some.inj (S.2.2.2.1.symm.trans hown2)
  have h6 := u_fits hfc hkC hkind (Or.inr hlay) hfi (hty k hk) hn hfit
  refine W.putFinK S.1 S.2.1 S.2.2.2.1 hlink hfi hst hcf hini (by rw [q2]; exact h6) q1 q3 (by rw [hsl]; exact k2_hasslot (q4 k hk)) rfl rfl hdg fun H' e1 e2 e3 => ?_
  rw [hsl] at e1 ⊢
  exact kk H' _ (hV.up hi e2 e3 ⟨_, hc, t_OB.to (V := updV (vp_V fs) k v) ⟨_, e1, q2, q3, t_set q4 hap hk v⟩ (fun j _ => vp_updV_set hl v j)⟩)
theorem hp_aastV (S : CallFix p m c cc nL s args Ts own) (hK : hp_K g s) (hV : hp_V g z0 N F H0 H locs) (i i2 : Nat) (hi : i < N) (hi2 : i2 < N) {n : Nat} {f : Nat → Option Nat} (hF : F i = .inl (g.2 1, n, .inr (.inr (.inr (.inr f))))) {ci : Nat} {fs : List Value} (hF2 : F i2 = .inr (ci, fs)) {r : vw_C} (hc : vwCl[ci]? = some r) (ht : (hp_t g.2)[1]? = some (g.2 1, .object r.1)) {j : Int32} (hin : vp_in j n) (hdg : decode cc pc = .ok (.aastore, 1))
    (kk : ∀ (H1 : Heap) (locs1 : List Loc), hp_V g z0 N (va_up F i (.inl (g.2 1, n, .inr (.inr (.inr (.inr (va_up f j.toNatClampNeg (some (hp_ad z0 i2))))))))) H0 H1 locs1 → W p l e R s m args below meth c H1 locs1 cells slots Q (F0 m (pc + 1) ls rest)) : W p l e R s m args below meth c H locs cells slots Q (F0 m pc ls (.ref (hp_ad z0 i2) :: .int j :: .ref (hp_ad z0 i) :: rest)) := by
  have hlt : j.toNatClampNeg < n := Nat.not_le.mp fun q => hin (Or.inr q)
  have h0 : ¬ j < 0 := fun q => hin (Or.inl q)
  obtain ⟨r', hr', cellV, g1, g2, g3, -⟩ := hV.1.1 i2 (hp_ad z0 i2, .inr (ci, fs)) (by rw [hp_ws_at hi2, hF2])
  have hcls := (hK.1.1 ci r hc).2
  obtain ⟨kA, comp, k1, k2, k3, -⟩ := (hK.1.2 1 _ ht).2
  have hcomp : comp = g.1.1 ci := Option.some.inj (k3.symm.trans hcls.1)
  subst hcomp
  obtain ⟨kC, hkC, -⟩ := hcls.2
  have ha : va_at g.1 vwCl (hp_ad z0 i, .inl (g.2 1, n, .inr (.inr (.inr (.inr f))))) H := hV.1.1 i _ (by rw [hp_ws_at hi, hF])
  refine W.aast S.1 S.2.1 ha (fun q h => by cases h) (fun h => by cases h) k1 k2 rfl hkC ⟨h0, by show _ < (arrV _ _ _).slots.size; rw [arrV_size]; exact hlt⟩ g1 (fun q h => by rw [g3] at h; cases h) (by rw [g2]; exact hkC) (by rw [g2]; exact va_assign hcls) rfl rfl hdg fun H1 e z oq => ?_
  refine kk H1 _ (hV.up hi z oq ?_)
  show H1[hp_ad z0 i]? = some (vp_cell _ _)
  rw [e]
  rw [vp_cell_q, vp_cell_q, arrV_store]
  congr 2
  funext q
  by_cases hq : q = j.toNatClampNeg
  · subst hq
    simp [updV, va_up, va_rf]
  · simp [updV, va_up, hq]
end HPU
