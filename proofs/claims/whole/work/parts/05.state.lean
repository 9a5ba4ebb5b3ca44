/-! pictures of the class's cells. Places: 0 the desk, 1 2 the tape and its bytes, 3 4 the draft, 5 6 the last value, 7 the entities, 8+3k 9+3k 10+3k entity k, its row, its bytes, 86 the reference -/
def rk (k : Nat) : Room := { frames := k, cells := 0, slots := 0, locals := 30 * k }
/-- a row at r (its bytes at r + 1) that has room for n and holds xs -/
def vRow (g : hp_G) (ad : Nat → Nat) (F : Nat → va_E) (r n : Nat) (xs : List Int32) : Prop := ∃ f : Nat → Int32, F r = .inr (kR, [.ref (ad (r + 1)), .int (nI xs.length)]) ∧ F (r + 1) = .inl (g.2 0, n, .inl f) ∧ xs.length ≤ n ∧ ∀ i, i < xs.length → f i = md_at xs i
theorem rk_ok {j k maxL : Nat} (h : j < k) (hm : maxL ≤ 11) : (rk j).frames + 1 ≤ (rk k).frames ∧ 8 + (maxL + 11) + (rk j).locals ≤ (rk k).locals := by
  simp only [rk]
  omega
theorem vRow.keep {g : hp_G} {ad : Nat → Nat} {F F' : Nat → va_E} {r n : Nat} {xs : List Int32} (h : vRow g ad F r n xs) (h1 : F' r = F r) (h2 : F' (r + 1) = F (r + 1)) : vRow g ad F' r n xs := by
  obtain ⟨f, a, b, c⟩ := h
  exact ⟨f, h1.trans a, h2.trans b, c⟩
theorem vRow.obj {g : hp_G} {ad : Nat → Nat} {F : Nat → va_E} {r n : Nat} {xs : List Int32} (h : vRow g ad F r n xs) : F r = .inr (kR, [.ref (ad (r + 1)), .int (nI xs.length)]) := h.choose_spec.1
theorem vRow.len {g : hp_G} {ad : Nat → Nat} {F : Nat → va_E} {r n : Nat} {xs : List Int32} (h : vRow g ad F r n xs) : xs.length ≤ n := h.choose_spec.2.2.1
theorem md_push {xs : List Int32} {f : Nat → Int32} {b : Int32} (h : ∀ i, i < xs.length → f i = md_at xs i) : ∀ i, i < (xs ++ [b]).length → upd f xs.length b i = md_at (xs ++ [b]) i := by
  intro i hi
  rw [List.length_append, List.length_singleton] at hi
  by_cases e : i = xs.length
  · subst e
    rw [pk_us, md_at_last]
  · rw [pk_un e, md_at_app (by omega)]
    exact h i (by omega)
/-- which places are rows, and their room -/
def rowp (j : Nat) : Prop := j = 1 ∨ j = 3 ∨ j = 5 ∨ ∃ k, k < 26 ∧ j = 9 + 3 * k
def cap (j : Nat) : Nat := if j = 1 then 200 else if j = 5 then 300 else 100
theorem cap_le (j : Nat) : cap j ≤ 300 := by unfold cap; split <;> (try split) <;> omega
theorem rowp_lt {j : Nat} (h : rowp j) : j + 1 < 86 := by
  rcases h with h | h | h | ⟨k, hk, h⟩ <;> omega
theorem rowp_ne {i j : Nat} (hi : rowp i) (hj : rowp j) (h : i ≠ j) : i ≠ j + 1 ∧ i + 1 ≠ j ∧ i + 1 ≠ j + 1 := by
  rcases hi with h1 | h1 | h1 | ⟨k, hk, h1⟩ <;> rcases hj with h2 | h2 | h2 | ⟨k2, hk2, h2⟩ <;> omega
theorem rowp_x {j : Nat} (h : rowp j) : j ≠ 0 ∧ j + 1 ≠ 0 ∧ j ≠ 7 ∧ j + 1 ≠ 7 ∧ j ≠ 86 ∧ j + 1 ≠ 86 ∧ ∀ k, j ≠ 8 + 3 * k ∧ j + 1 ≠ 8 + 3 * k := by
  rcases h with h | h | h | ⟨k, hk, h⟩ <;> refine ⟨by omega, by omega, by omega, by omega, by omega, by omega, fun k => ⟨by omega, by omega⟩⟩
theorem rowp_e {k : Nat} (h : k < 26) : rowp (9 + 3 * k) := Or.inr (Or.inr (Or.inr ⟨k, h, rfl⟩))
theorem rowp_1 : rowp 1 := Or.inl rfl
theorem rowp_3 : rowp 3 := Or.inr (Or.inl rfl)
theorem rowp_5 : rowp 5 := Or.inr (Or.inr (Or.inl rfl))
theorem cap_1 : cap 1 = 200 := rfl
theorem cap_3 : cap 3 = 100 := rfl
theorem cap_5 : cap 5 = 300 := rfl
theorem cap_e {k : Nat} : cap (9 + 3 * k) = 100 := by unfold cap; rw [if_neg (by omega), if_neg (by omega)]
/-- the desk's own fields -/
abbrev dF (ad : Nat → Nat) (fp lm me dp : Int32) : List Value := [.ref (ad 1), .ref (ad 3), .ref (ad 5), .ref (ad 7), .ref (ad 86), .int fp, .int lm, .int me, .int dp]
/-- the whole desk: rows rs, known kn, open op, place fp, limit lm, meter me, depth dp, the reference wh te nu en -/
def vSt (g : hp_G) (ad : Nat → Nat) (F : Nat → va_E) (rs : Nat → List Int32) (kn op : Nat → Bool) (fp lm me dp wh te nu en : Int32) : Prop :=
  F 0 = .inr (kD, dF ad fp lm me dp) ∧ (∀ j, rowp j → vRow g ad F j (cap j) (rs j)) ∧ (∃ fe : Nat → Option Nat, F 7 = .inl (g.2 1, 26, .inr (.inr (.inr (.inr fe)))) ∧ ∀ k, k < 26 → fe k = some (ad (8 + 3 * k))) ∧
  (∀ k, k < 26 → F (8 + 3 * k) = .inr (kE, [.ref (ad (9 + 3 * k)), .int (b2 (kn k)), .int (b2 (op k))])) ∧ F 86 = .inr (kF, [.int wh, .int te, .int nu, .int en])
/-- what is not the class's stays -/
def vFr (F F' : Nat → va_E) : Prop := ∀ x, 87 ≤ x → F' x = F x
theorem vFr.rf {F : Nat → va_E} : vFr F F := fun _ _ => rfl
theorem vFr.tr {F F1 F2 : Nat → va_E} (h1 : vFr F F1) (h2 : vFr F1 F2) : vFr F F2 := fun x hx => (h2 x hx).trans (h1 x hx)
section VST
variable {g : hp_G} {ad : Nat → Nat} {F F' : Nat → va_E} {rs : Nat → List Int32} {kn op : Nat → Bool} {fp lm me dp wh te nu en : Int32}
theorem vSt.row (h : vSt g ad F rs kn op fp lm me dp wh te nu en) {j : Nat} (hj : rowp j) : vRow g ad F j (cap j) (rs j) := h.2.1 j hj
/-- the desk's fields change -/
theorem vSt.desk (h : vSt g ad F rs kn op fp lm me dp wh te nu en) {fp' lm' me' dp' : Int32} (h0 : F' 0 = .inr (kD, dF ad fp' lm' me' dp')) (hx : ∀ x, x ≠ 0 → F' x = F x) : vSt g ad F' rs kn op fp' lm' me' dp' wh te nu en := by
  obtain ⟨a, b, ⟨fe, c1, c2⟩, d, e⟩ := h
  exact ⟨h0, fun j hj => (b j hj).keep (hx j (rowp_x hj).1) (hx _ (rowp_x hj).2.1), ⟨fe, by rw [hx 7 (by omega)]; exact c1, c2⟩, fun k hk => by rw [hx _ (by omega)]; exact d k hk, by rw [hx 86 (by omega)]; exact e⟩
/-- a row changes -/
theorem vSt.setRow (h : vSt g ad F rs kn op fp lm me dp wh te nu en) {j : Nat} (hj : rowp j) {xs : List Int32} (hr : vRow g ad F' j (cap j) xs) (hx : ∀ x, x ≠ j → x ≠ j + 1 → F' x = F x) : vSt g ad F' (va_up rs j xs) kn op fp lm me dp wh te nu en := by
  obtain ⟨a, b, ⟨fe, c1, c2⟩, d, e⟩ := h
  obtain ⟨x1, x2, x3, x4, x5, x6, x7⟩ := rowp_x hj
  refine ⟨by rw [hx 0 (Ne.symm x1) (Ne.symm x2)]; exact a, fun i hi => ?_, ⟨fe, by rw [hx 7 (Ne.symm x3) (Ne.symm x4)]; exact c1, c2⟩, fun k hk => by rw [hx _ (Ne.symm (x7 k).1) (Ne.symm (x7 k).2)]; exact d k hk, by rw [hx 86 (Ne.symm x5) (Ne.symm x6)]; exact e⟩
  by_cases hij : i = j
  · subst hij
    rw [va_up_self]
    exact hr
  · rw [va_up_ne _ _ hij]
    obtain ⟨y1, y2, y3⟩ := rowp_ne hi hj hij
    exact (b i hi).keep (hx i hij y1) (hx _ y2 y3)
/-- an entity's flags change -/
theorem vSt.setEnt (h : vSt g ad F rs kn op fp lm me dp wh te nu en) {k : Nat} (hk : k < 26) {u v : Bool} (he : F' (8 + 3 * k) = .inr (kE, [.ref (ad (9 + 3 * k)), .int (b2 u), .int (b2 v)])) (hx : ∀ x, x ≠ 8 + 3 * k → F' x = F x) : vSt g ad F' rs (va_up kn k u) (va_up op k v) fp lm me dp wh te nu en := by
  obtain ⟨a, b, ⟨fe, c1, c2⟩, d, e⟩ := h
  refine ⟨by rw [hx 0 (by omega)]; exact a, fun j hj => (b j hj).keep (hx j ((rowp_x hj).2.2.2.2.2.2 k).1) (hx _ ((rowp_x hj).2.2.2.2.2.2 k).2), ⟨fe, by rw [hx 7 (by omega)]; exact c1, c2⟩, fun i hi => ?_, by rw [hx 86 (by omega)]; exact e⟩
  by_cases hik : i = k
  · subst hik
    rw [va_up_self, va_up_self]
    exact he
  · rw [va_up_ne _ _ hik, va_up_ne _ _ hik, hx _ (by omega)]
    exact d i hi
/-- the reference changes -/
theorem vSt.setRef (h : vSt g ad F rs kn op fp lm me dp wh te nu en) {wh' te' nu' en' : Int32} (h0 : F' 86 = .inr (kF, [.int wh', .int te', .int nu', .int en'])) (hx : ∀ x, x ≠ 86 → F' x = F x) : vSt g ad F' rs kn op fp lm me dp wh' te' nu' en' := by
  obtain ⟨a, b, ⟨fe, c1, c2⟩, d, e⟩ := h
  exact ⟨by rw [hx 0 (by omega)]; exact a, fun j hj => (b j hj).keep (hx j (rowp_x hj).2.2.2.2.1) (hx _ (rowp_x hj).2.2.2.2.2.1), ⟨fe, by rw [hx 7 (by omega)]; exact c1, c2⟩, fun k hk => by rw [hx _ (by omega)]; exact d k hk, h0⟩
end VST
theorem va_up_eta {α : Type} (f : Nat → α) (k : Nat) : va_up f k (f k) = f := by
  funext j
  by_cases h : j = k
  · subst h
    rw [va_up_self]
  · rw [va_up_ne _ _ h]
theorem va_rf_some (a : Nat) : va_rf (some a) = .ref a := rfl
theorem va_rf_none : va_rf none = .null := rfl
/-- the entity's address, by the number that a call gives -/
def entA (ad : Nat → Nat) (k : Int32) : Option Nat := if 0 ≤ k ∧ k < 26 then some (ad (8 + 3 * k.toNatClampNeg)) else none
theorem ent_k {k : Int32} (h0 : ¬ k < 0) (h1 : k < 26) : ∃ i : Nat, i < 26 ∧ k = nI i := by
  obtain ⟨i, hi, e⟩ := nI_of h0
  subst e
  exact ⟨i, (nI_ltI (b := 26) hi (by omega)).mp h1, rfl⟩
theorem entA_in {ad : Nat → Nat} {i : Nat} (h : i < 26) : entA ad (nI i) = some (ad (8 + 3 * i)) := by
  unfold entA
  rw [if_pos ⟨nI_pos' (by omega), (nI_ltI (b := 26) (by omega) (by omega)).mpr h⟩, nI_clamp (by omega)]
theorem kn_t {kn : Nat → Bool} {i : Nat} (h : b2 (kn i) = 0) : md_kn kn (i + 1) = md_kn kn i := by
  show md_kn kn i + _ = _
  rw [b2_0.mp h]
  rfl
theorem kn_f {kn : Nat → Bool} {i : Nat} (h : ¬ b2 (kn i) = 0) : md_kn kn (i + 1) = md_kn kn i + 1 := by
  show md_kn kn i + _ = _
  rw [b2_n0.mp h]
  rfl
/-- the first i entities forgotten -/
def clr (kn : Nat → Bool) (i : Nat) : Nat → Bool := fun k => if k < i then false else kn k
theorem clr_0 (kn : Nat → Bool) : clr kn 0 = kn := by funext k; simp [clr]
theorem clr_s (kn : Nat → Bool) (i : Nat) : va_up (clr kn i) i false = clr kn (i + 1) := by
  funext k
  by_cases h : k = i
  · subst h
    rw [va_up_self]
    simp [clr]
  · rw [va_up_ne _ _ h]
    unfold clr
    by_cases h2 : k < i
    · rw [if_pos h2, if_pos (by omega)]
    · rw [if_neg h2, if_neg (by omega)]
theorem i5 (x : Int32) : x = 0 ∨ x = 1 ∨ x = 2 ∨ x = 3 ∨ x = 4 ∨ (x.toInt < 0 ∨ 4 < x.toInt) := by
  by_cases h0 : x = 0
  · exact Or.inl h0
  by_cases h1 : x = 1
  · exact Or.inr (Or.inl h1)
  by_cases h2 : x = 2
  · exact Or.inr (Or.inr (Or.inl h2))
  by_cases h3 : x = 3
  · exact Or.inr (Or.inr (Or.inr (Or.inl h3)))
  by_cases h4 : x = 4
  · exact Or.inr (Or.inr (Or.inr (Or.inr (Or.inl h4))))
  have g0 := lv_neT (a := 0) h0 rfl
  have g1 := lv_neT (a := 1) h1 rfl
  have g2 := lv_neT (a := 2) h2 rfl
  have g3 := lv_neT (a := 3) h3 rfl
  have g4 := lv_neT (a := 4) h4 rfl
  exact Or.inr (Or.inr (Or.inr (Or.inr (Or.inr (by omega)))))
theorem put_k {n : Int32} (h1 : ¬ n < 1) (h8 : ¬ 8 < n) : ∃ k : Nat, 1 ≤ k ∧ k ≤ 8 ∧ n = nI k := by
  have h0 : ¬ n < 0 := by
    rw [Int32.lt_iff_toInt_lt] at h1 ⊢
    have e1 : (1 : Int32).toInt = 1 := rfl
    have e0 : (0 : Int32).toInt = 0 := rfl
    omega
  obtain ⟨k, hk, e⟩ := nI_of h0
  subst e
  refine ⟨k, ?_, ?_, rfl⟩
  · rcases Nat.lt_or_ge k 1 with q | q
    · exact absurd ((nI_ltI (b := 1) hk (by omega)).mpr q) h1
    · exact q
  · rcases Nat.lt_or_ge 8 k with q | q
    · exact absurd ((nI_ltI (a := 8) (by omega) hk).mpr q) h8
    · exact q
theorem md_bytes_s (v : Int64) (t : Nat) : md_bytes v (t + 1) = md_byte v t :: md_bytes v t := rfl
theorem m1_lt (t : Nat) (ht : t < 1000) : (nI t + (-1) < 0) ↔ t = 0 := by
  cases t with
  | zero => exact ⟨fun _ => rfl, fun _ => by decide⟩
  | succ t =>
    rw [pk_m1]
    exact ⟨fun h => absurd h (nI_pos (by omega)), fun h => by omega⟩
theorem up_up {α : Type} (f : Nat → α) (k : Nat) (a b : α) : va_up (va_up f k a) k b = va_up f k b := bx_uu f k a b
/-- three bytes, one after the other -/
def md_pre (a : List Int32) (x y z : Int32) (t : Nat) : List Int32 := a ++ [x, y, z].take t
theorem md_pre_len {a : List Int32} {x y z : Int32} {t : Nat} (h : t ≤ 3) : (md_pre a x y z t).length = a.length + t := by
  unfold md_pre
  rw [List.length_append, List.length_take]
  show a.length + min t 3 = _
  omega
theorem md_pre_s {xs : List Int32} {p : Nat} {a : List Int32} {t : Nat} (h : t < 3) : md_pre a (md_at xs p) (md_at xs (p + 1)) (md_at xs (p + 2)) (t + 1) = md_pre a (md_at xs p) (md_at xs (p + 1)) (md_at xs (p + 2)) t ++ [md_at xs (p + t)] := by
  unfold md_pre
  match t, h with
  | 0, _ => simp
  | 1, _ => simp
  | 2, _ => simp
theorem md_pre_0 {a : List Int32} {x y z : Int32} : md_pre a x y z 0 = a := by simp [md_pre]
theorem md_pre_3 {a : List Int32} {x y z : Int32} : md_pre a x y z 3 = a ++ [x, y, z] := rfl
