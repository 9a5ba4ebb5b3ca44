/-! pictures of the reference's cells. Places: 87 the object, 88 tape, 89 has, 90 size, 91 texts, 92 value, 93 entity, 94 at, 95 made -/
abbrev mF (ad : Nat → Nat) (tc bt vs fp me dp de fa ou ki nu be mk : Int32) : List Value := [.int tc, .ref (ad 88), .int bt, .ref (ad 89), .ref (ad 90), .ref (ad 91), .ref (ad 92), .int vs, .int fp, .int me, .int dp, .int de, .ref (ad 93), .ref (ad 94), .int fa, .int ou, .int ki, .int nu, .int be, .ref (ad 95), .int mk]
def mSt (g : hp_G) (ad : Nat → Nat) (F : Nat → va_E) (tc bt vs fp me dp de fa ou ki nu be mk : Int32) (tp hs sz tx vl ey ap md : Nat → Int32) : Prop :=
  F 87 = .inr (kM, mF ad tc bt vs fp me dp de fa ou ki nu be mk) ∧ F 88 = .inl (g.2 0, 200, .inl tp) ∧ F 89 = .inl (g.2 2, 26, .inl hs) ∧ F 90 = .inl (g.2 0, 26, .inl sz) ∧ F 91 = .inl (g.2 0, 2600, .inl tx) ∧ F 92 = .inl (g.2 0, 301, .inl vl) ∧ F 93 = .inl (g.2 0, 28, .inl ey) ∧ F 94 = .inl (g.2 0, 28, .inl ap) ∧ F 95 = .inl (g.2 0, 204, .inl md)
/-- a list in an array from place o on -/
def mL (f : Nat → Int32) (o : Nat) (xs : List Int32) : Prop := ∀ i, i < xs.length → f (o + i) = md_at xs i
theorem mL_nil (f : Nat → Int32) (o : Nat) : mL f o [] := fun i h => absurd h (Nat.not_lt_zero _)
theorem mL_push {f : Nat → Int32} {xs : List Int32} {c : Int32} (h : mL f 0 xs) : mL (upd f xs.length c) 0 (xs ++ [c]) := fun i hi => by
  rw [Nat.zero_add]
  exact md_push (fun i hi => by have := h i hi; rwa [Nat.zero_add] at this) i hi
/-- which texts there are -/
def mT (kn : Nat → Bool) (rt : Nat → List Int32) (hs sz tx : Nat → Int32) : Prop := ∀ k, k < 26 → hs k = b2 (kn k) ∧ (kn k = true → sz k = nI (rt k).length ∧ (rt k).length ≤ 100 ∧ mL tx (100 * k) (rt k))
/-- what is open, the last one first -/
def mK (kn : Nat → Bool) (ey : Nat → Int32) (stk : List Nat) : Prop := stk.length ≤ 26 ∧ (∀ i, i < stk.length → ey (stk.length - i) = nI (stk.getD i 0)) ∧ ∀ k ∈ stk, k < 26 ∧ kn k = true
/-- the whole reference -/
def mS (g : hp_G) (ad : Nat → Nat) (F : Nat → va_E) (tape : List Int32) (kn : Nat → Bool) (rt : Nat → List Int32) (la mm : List Int32) (stk : List Nat) (ap : Nat → Int32) (tc fp me dp fa ou ki nu be : Int32) : Prop :=
  ∃ tp hs sz tx vl ey md : Nat → Int32, mSt g ad F tc (nI tape.length) (nI la.length) fp me dp (nI stk.length) fa ou ki nu be (nI mm.length) tp hs sz tx vl ey ap md ∧ (tape.length ≤ 200 ∧ mL tp 0 tape) ∧ mT kn rt hs sz tx ∧ (la.length ≤ 300 ∧ mL vl 0 la) ∧ mK kn ey stk ∧ mm.length ≤ 100 ∧ mL md 0 mm
/-- what is not the reference's stays -/
def mFr (F F' : Nat → va_E) : Prop := ∀ x, x < 87 → F' x = F x
theorem mFr.rf {F : Nat → va_E} : mFr F F := fun _ _ => rfl
theorem mFr.tr {F F1 F2 : Nat → va_E} (h1 : mFr F F1) (h2 : mFr F1 F2) : mFr F F2 := fun x hx => (h2 x hx).trans (h1 x hx)
/-- the row that is being read -/
def mC (tape : List Int32) (rt : Nat → List Int32) (stk : List Nat) : List Int32 := match stk with
  | [] => tape
  | k :: _ => rt k
/-- the fault of a reference, and its place -/
def lkf (t n : Nat) (X : Bool × Bool × Int32 × Nat) : Nat := if X.1 = true then if X.2.1 = true ∨ md_ch X.2.2.1 = true then 0 else 5 else if t = 0 ∨ X.2.2.2 < n then 1 else 7
def lkp (p : Nat) (X : Bool × Bool × Int32 × Nat) : Nat := if X.1 = true then p else X.2.2.2
/-- behind look(p), that found X -/
def LK (g : hp_G) (ad : Nat → Nat) (Fz : Nat → va_E) (tape : List Int32) (kn : Nat → Bool) (rt : Nat → List Int32) (la mm : List Int32) (stk : List Nat) (ap : Nat → Int32) (tc fp me dp ou : Int32) (p : Nat) (X : Bool × Bool × Int32 × Nat) (F' : Nat → va_E) : Prop :=
  ∃ ki nu be : Int32, mS g ad F' tape kn rt la mm stk ap tc (pf (lkf stk.length (mC tape rt stk).length X) fp (if stk.length = 0 then nI (lkp p X) else ou)) me dp (nI (lkf stk.length (mC tape rt stk).length X)) ou ki nu be ∧ (X.1 = true → be = nI X.2.2.2 ∧ nu = X.2.2.1 ∧ ki = (if X.2.1 = true then 1 else 2)) ∧ mFr Fz F'
theorem mS.cl {g : hp_G} {ad : Nat → Nat} {F : Nat → va_E} {tape : List Int32} {kn : Nat → Bool} {rt : Nat → List Int32} {la mm : List Int32} {stk : List Nat} {ap : Nat → Int32} {tc fp me dp fa ou ki nu be : Int32} (h : mS g ad F tape kn rt la mm stk ap tc fp me dp fa ou ki nu be) : (mC tape rt stk).length ≤ 200 := by
  obtain ⟨tp, hs, sz, tx, vl, ey, md, hR, ⟨htl, htp⟩, hT, ⟨hll, hvl⟩, hKs, hml0, hmd⟩ := h
  cases stk with
  | nil => exact htl
  | cons k st1 =>
    have hk := hKs.2.2 k List.mem_cons_self
    have := ((hT k hk.1).2 hk.2).2.1
    show (rt k).length ≤ 200
    omega
theorem mS.sl {g : hp_G} {ad : Nat → Nat} {F : Nat → va_E} {tape : List Int32} {kn : Nat → Bool} {rt : Nat → List Int32} {la mm : List Int32} {stk : List Nat} {ap : Nat → Int32} {tc fp me dp fa ou ki nu be : Int32} (h : mS g ad F tape kn rt la mm stk ap tc fp me dp fa ou ki nu be) : stk.length ≤ 26 := by
  obtain ⟨tp, hs, sz, tx, vl, ey, md, hR, hA, hT, hB, hKs, hC⟩ := h
  exact hKs.1
theorem mK_push {kn : Nat → Bool} {ey : Nat → Int32} {stk : List Nat} {k : Nat} (h : mK kn ey stk) (hk : k < 26) (hkn : kn k = true) (hl : stk.length + 1 ≤ 26) : mK kn (upd ey (stk.length + 1) (nI k)) (k :: stk) := by
  refine ⟨by rw [List.length_cons]; exact hl, fun i hi => ?_, fun z hz => ?_⟩
  · rw [List.length_cons] at hi ⊢
    cases i with
    | zero =>
      rw [Nat.sub_zero, pk_us]
      rfl
    | succ i =>
      rw [pk_un (by omega), show stk.length + 1 - (i + 1) = stk.length - i by omega]
      exact h.2.1 i (by omega)
  · rcases List.mem_cons.mp hz with rfl | h2
    · exact ⟨hk, hkn⟩
    · exact h.2.2 z h2
theorem mK_pop {kn : Nat → Bool} {ey : Nat → Int32} {stk : List Nat} {k : Nat} (h : mK kn ey (k :: stk)) : mK kn ey stk := by
  refine ⟨by have := h.1; rw [List.length_cons] at this; omega, fun i hi => ?_, fun z hz => h.2.2 z (List.mem_cons_of_mem _ hz)⟩
  have h1 := h.2.1 (i + 1) (by rw [List.length_cons]; omega)
  rw [List.length_cons, show stk.length + 1 - (i + 1) = stk.length - i by omega] at h1
  exact h1
def txR (kn : Nat → Bool) (rt : Nat → List Int32) : Nat → Option (List Int32) := fun k => if kn k = true then some (rt k) else none
/-- why an entity isn't put in -/
def opf (kn : Nat → Bool) (stk : List Nat) (k n me0 lim : Nat) : Nat := if kn k = false then 2 else if k ∈ stk then 3 else if lim < me0 + n then 6 else 0
theorem lkf_le (t n : Nat) (X : Bool × Bool × Int32 × Nat) : lkf t n X ≤ 8 := by
  unfold lkf
  split
  · split <;> omega
  · split <;> omega
theorem lkf_5 {t n q : Nat} {nu : Int32} (h : md_ch nu = false) : lkf t n (true, false, nu, q) = 5 := by
  unfold lkf
  rw [if_pos rfl]
  exact if_neg (fun z => by
    rcases z with z | z
    · cases z
    · rw [h] at z
      cases z)
