/-! the value that both sides hold: bytes are Int32, places are Nat -/
def b2 (b : Bool) : Int32 := if b then 1 else 0
theorem b2_t : b2 true = 1 := rfl
theorem b2_f : b2 false = 0 := rfl
theorem b2_0 {b : Bool} : b2 b = 0 ↔ b = false := by cases b <;> simp [b2]
theorem b2_n0 {b : Bool} : ¬ b2 b = 0 ↔ b = true := by cases b <;> simp [b2]
theorem b2_nar (b : Bool) : narrow .boolean (.int (b2 b)) = .int (b2 b) := by cases b <;> rfl
theorem b2_fit (b : Bool) : fits .boolean (.int (b2 b)) = true := by cases b <;> rfl
def md_ch (c : Int32) : Bool := decide (c = 9 ∨ c = 10 ∨ c = 13 ∨ (32 ≤ c ∧ c ≤ 126))
def md_dg (hex : Bool) (c : Int32) : Int32 := if 48 ≤ c ∧ c ≤ 57 then c - 48 else if hex = true ∧ 97 ≤ c ∧ c ≤ 102 then c - 87 else if hex = true ∧ 65 ≤ c ∧ c ≤ 70 then c - 55 else -1
def md_at (xs : List Int32) (i : Nat) : Int32 := xs.getD i (-1)
def md_base (hex : Bool) : Int32 := if hex then 16 else 10
/-- up to k digits from place q on: where they end, the number -/
def md_dgs (hex : Bool) (xs : List Int32) : Nat → Nat → Int32 → Nat × Int32
  | 0, q, a => (q, a)
  | k + 1, q, a => if 0 ≤ md_dg hex (md_at xs q) then md_dgs hex xs k (q + 1) (a * md_base hex + md_dg hex (md_at xs q)) else (q, a)
def md_cl (xs : List Int32) (en : Bool) (nu : Int32) (q : Nat) : Bool × Bool × Int32 × Nat := if md_at xs q = 59 then (true, en, nu, q + 1) else (false, en, nu, q)
def md_hex (xs : List Int32) (p : Nat) : Bool := decide (md_at xs (p + 2) = 120)
def md_from (xs : List Int32) (p : Nat) : Nat := if md_hex xs p then p + 3 else p + 2
/-- digits from place q on, and what ends them -/
def md_num (hex : Bool) (xs : List Int32) (q : Nat) : Bool × Bool × Int32 × Nat :=
  if (md_dgs hex xs 6 q 0).1 = q then (false, false, 0, q) else md_cl xs false (md_dgs hex xs 6 q 0).2 (md_dgs hex xs 6 q 0).1
/-- the reference at p: is it whole; is it to an entity; its number; behind it, or where it doesn't go on -/
def md_ref (xs : List Int32) (p : Nat) : Bool × Bool × Int32 × Nat :=
  if md_at xs (p + 1) = 35 then md_num (md_hex xs p) xs (md_from xs p)
  else if 97 ≤ md_at xs (p + 1) ∧ md_at xs (p + 1) ≤ 122 then md_cl xs true (md_at xs (p + 1) - 97) (p + 2)
  else (false, true, 0, p + 1)
/-- of a value: its characters, the meter, the depth -/
abbrev md_S : Type := List Int32 × Nat × Nat
/-- .. with the fault (0: none) and its place -/
abbrev md_R : Type := md_S × Nat × Nat
/-- a character more, where there's room for m -/
def md_ad (m : Nat) (a : List Int32) (c : Int32) : List Int32 × Nat := if a.length < m then (a ++ [c], 0) else (a, 8)
/-- a character by its number -/
def md_nu (m : Nat) (a : List Int32) (nu : Int32) : List Int32 × Nat := if md_ch nu = true then md_ad m a nu else (a, 5)
/-- a byte that stands in a value -/
def md_by (a : List Int32) (c : Int32) : List Int32 × Nat := if c = 60 then (a, 4) else if md_ch c = true then md_ad 300 a (if c < 32 then 32 else c) else (a, 1)
/-- an entity k that is put in; sub reads its text -/
def md_en (tx : Nat → Option (List Int32)) (lim : Nat) (sub : Nat → List Int32 → md_S → Nat → md_R) (stk : List Nat) (k : Nat) (s : md_S) (h : Nat) : md_R :=
  match tx k with
  | none => (s, 2, h)
  | some ys => if k ∈ stk then (s, 3, h) else if lim < s.2.1 + ys.length then (s, 6, h) else sub k ys (s.1, s.2.1 + ys.length, max s.2.2 (stk.length + 1)) h
/-- a whole reference -/
def md_wr (tx : Nat → Option (List Int32)) (lim : Nat) (sub : Nat → List Int32 → md_S → Nat → md_R) (stk : List Nat) (en : Bool) (nu : Int32) (s : md_S) (h : Nat) : md_R :=
  if en = true then md_en tx lim sub stk nu.toNatClampNeg s h else (((md_nu 300 s.1 nu).1, s.2), (md_nu 300 s.1 nu).2, h)
def md_here (stk : List Nat) (ou i : Nat) : Nat := if stk.length = 0 then i else ou
/-- what stands at place i -/
def md_it (tx : Nat → Option (List Int32)) (lim : Nat) (sub : Nat → List Int32 → md_S → Nat → md_R) (stk : List Nat) (ou : Nat) (xs : List Int32) (i : Nat) (s : md_S) : md_R :=
  if md_at xs i = 38 then
    if (md_ref xs i).1 = true then md_wr tx lim sub stk (md_ref xs i).2.1 (md_ref xs i).2.2.1 s (md_here stk ou i)
    else (s, if stk.length = 0 ∨ (md_ref xs i).2.2.2 < xs.length then 1 else 7, md_here stk ou (md_ref xs i).2.2.2)
  else (((md_by s.1 (md_at xs i)).1, s.2), (md_by s.1 (md_at xs i)).2, md_here stk ou i)
def md_nx (xs : List Int32) (i : Nat) : Nat := if md_at xs i = 38 then (md_ref xs i).2.2.2 else i + 1
def md_lp (tx : Nat → Option (List Int32)) (lim : Nat) (sub : Nat → List Int32 → md_S → Nat → md_R) (stk : List Nat) (ou : Nat) (xs : List Int32) : Nat → Nat → md_S → md_R
  | 0, _, s => (s, 0, 0)
  | n + 1, i, s =>
    if i < xs.length then
      if (md_it tx lim sub stk ou xs i s).2.1 = 0 then md_lp tx lim sub stk ou xs n (md_nx xs i) (md_it tx lim sub stk ou xs i s).1 else md_it tx lim sub stk ou xs i s
    else (s, 0, 0)
def md_rv (tx : Nat → Option (List Int32)) (lim : Nat) : Nat → List Nat → Nat → List Int32 → md_S → md_R
  | 0, _, ou, _, s => (s, 3, ou)
  | d + 1, stk, ou, xs, s => md_lp tx lim (fun k ys s h => md_rv tx lim d (k :: stk) h ys s) stk ou xs xs.length 0 s
/-- a definition: its characters, the fault and its place -/
def md_3 (a : List Int32) (x y z : Int32) : List Int32 × Nat := if a.length + 3 ≤ 100 then (a ++ [x, y, z], 0) else (a, 8)
def md_dit (xs : List Int32) (i : Nat) (a : List Int32) : List Int32 × Nat × Nat :=
  if md_at xs i = 38 then
    if (md_ref xs i).1 = true then
      if (md_ref xs i).2.1 = true then ((md_3 a (md_at xs i) (md_at xs (i + 1)) (md_at xs (i + 2))).1, (md_3 a (md_at xs i) (md_at xs (i + 1)) (md_at xs (i + 2))).2, i)
      else ((md_nu 100 a (md_ref xs i).2.2.1).1, (md_nu 100 a (md_ref xs i).2.2.1).2, i)
    else (a, 1, (md_ref xs i).2.2.2)
  else if md_ch (md_at xs i) = true then ((md_ad 100 a (md_at xs i)).1, (md_ad 100 a (md_at xs i)).2, i) else (a, 1, i)
def md_df (xs : List Int32) : Nat → Nat → List Int32 → List Int32 × Nat × Nat
  | 0, _, a => (a, 0, 0)
  | n + 1, i, a =>
    if i < xs.length then
      if (md_dit xs i a).2.1 = 0 then md_df xs n (md_nx xs i) (md_dit xs i a).1 else md_dit xs i a
    else (a, 0, 0)
theorem md_nx_gt (xs : List Int32) (i : Nat) (h : ∀ p, p + 1 ≤ (md_ref xs p).2.2.2) : i + 1 ≤ md_nx xs i := by
  unfold md_nx
  split
  · exact h i
  · exact Nat.le_refl _
/-- leaving out blanks -/
def md_sq1 (a : List Int32) (c : Int32) : List Int32 := if c ≠ 32 ∨ (0 < a.length ∧ md_at a (a.length - 1) ≠ 32) then a ++ [c] else a
def md_sqs (xs : List Int32) : Nat → List Int32
  | 0 => []
  | i + 1 => md_sq1 (md_sqs xs i) (md_at xs i)
def md_cut (a : List Int32) : List Int32 := if 0 < a.length ∧ md_at a (a.length - 1) = 32 then a.take (a.length - 1) else a
def md_sq (xs : List Int32) : List Int32 := md_cut (md_sqs xs xs.length)
/-- eight characters -/
def md_w (h : Nat → Int32) : Nat → Int64
  | 0 => 0
  | i + 1 => (md_w h i <<< ((8 : Int32).toInt64 &&& 63)) ||| (h i).toInt64
def md_word (xs : List Int32) (k : Int32) : Int64 := if k < 0 then -1 else md_w (fun i => xs.getD (k.toNatClampNeg + i) 0) 8
/-- what put brings -/
def md_byte (v : Int64) (i : Nat) : Int32 := (v.toUInt64 >>> ((8 * nI i).toInt64.toUInt64 &&& Int64.toUInt64 63)).toInt64.toInt32 &&& 255
def md_bytes (v : Int64) : Nat → List Int32
  | 0 => []
  | i + 1 => md_byte v i :: md_bytes v i
def md_kn (kn : Nat → Bool) : Nat → Nat
  | 0 => 0
  | k + 1 => md_kn kn k + (if kn k then 1 else 0)
theorem md_bytes_len (v : Int64) : ∀ n, (md_bytes v n).length = n
  | 0 => rfl
  | n + 1 => by simp [md_bytes, md_bytes_len v n]
theorem md_kn_le (kn : Nat → Bool) : ∀ n, md_kn kn n ≤ n
  | 0 => Nat.le_refl _
  | n + 1 => by
    have := md_kn_le kn n
    simp only [md_kn]
    split <;> omega
theorem md_at_lt {xs : List Int32} {i : Nat} (h : i < xs.length) : md_at xs i = xs[i] := by
  simp [md_at, h]
theorem md_at_ge {xs : List Int32} {i : Nat} (h : xs.length ≤ i) : md_at xs i = -1 := by
  simp [md_at, h]
theorem md_at_app {xs ys : List Int32} {i : Nat} (h : i < xs.length) : md_at (xs ++ ys) i = md_at xs i := by
  simp [md_at, List.getElem?_append_left h]
theorem md_at_last {xs : List Int32} {c : Int32} : md_at (xs ++ [c]) xs.length = c := by
  simp [md_at]
theorem md_sqs_len (xs : List Int32) : ∀ n, (md_sqs xs n).length ≤ n
  | 0 => Nat.le_refl _
  | n + 1 => by
    have := md_sqs_len xs n
    simp only [md_sqs, md_sq1]
    split
    · rw [List.length_append]; simp; omega
    · omega
theorem md_cut_len (a : List Int32) : (md_cut a).length ≤ a.length := by
  unfold md_cut
  split
  · simp
  · exact Nat.le_refl _
/-- digits end where they may -/
theorem md_dgs_ge (hex : Bool) (xs : List Int32) : ∀ k q a, q ≤ (md_dgs hex xs k q a).1 ∧ (md_dgs hex xs k q a).1 ≤ q + k
  | 0, q, a => ⟨Nat.le_refl _, Nat.le_refl _⟩
  | k + 1, q, a => by
    simp only [md_dgs]
    split
    · have := md_dgs_ge hex xs k (q + 1) (a * md_base hex + md_dg hex (md_at xs q))
      omega
    · simp
theorem md_ref_end (xs : List Int32) (p : Nat) : p + 1 ≤ (md_ref xs p).2.2.2 ∧ (md_ref xs p).2.2.2 ≤ p + 10 := by
  have hf : p + 2 ≤ md_from xs p ∧ md_from xs p ≤ p + 3 := by unfold md_from; split <;> omega
  have hd := md_dgs_ge (md_hex xs p) xs 6 (md_from xs p) 0
  unfold md_ref md_num md_cl
  split
  · split
    · simp; omega
    · split <;> simp <;> omega
  · split
    · split <;> simp
    · simp
theorem md_ref_ent {xs : List Int32} {p : Nat} (h : (md_ref xs p).1 = true) (h2 : (md_ref xs p).2.1 = true) : (97 ≤ md_at xs (p + 1) ∧ md_at xs (p + 1) ≤ 122) ∧ (md_ref xs p).2.2.1 = md_at xs (p + 1) - 97 ∧ (md_ref xs p).2.2.2 = p + 3 := by
  unfold md_ref md_num md_cl at *
  split at h
  · rename_i h1
    rw [if_pos h1] at h2
    split at h
    · cases h
    · rename_i h3
      rw [if_neg h3] at h2
      split at h2 <;> cases h2
  · rename_i h1
    split at h
    · rename_i h3
      split at h
      · rename_i h4
        rw [if_neg h1, if_pos h3, if_pos h4]
        exact ⟨h3, rfl, rfl⟩
      · cases h
    · cases h
theorem md_nx_ge (xs : List Int32) (i : Nat) : i + 1 ≤ md_nx xs i := md_nx_gt xs i (fun p => (md_ref_end xs p).1)
theorem md_lp_end {tx : Nat → Option (List Int32)} {lim : Nat} {sub : Nat → List Int32 → md_S → Nat → md_R} {stk : List Nat} {ou : Nat} {xs : List Int32} {n i : Nat} {s : md_S} (h : xs.length ≤ i) : md_lp tx lim sub stk ou xs n i s = (s, 0, 0) := by
  cases n with
  | zero => rfl
  | succ n => exact if_neg (by omega)
theorem md_lp_go {tx : Nat → Option (List Int32)} {lim : Nat} {sub : Nat → List Int32 → md_S → Nat → md_R} {stk : List Nat} {ou : Nat} {xs : List Int32} {n i : Nat} {s : md_S} (h : i < xs.length) (h0 : (md_it tx lim sub stk ou xs i s).2.1 = 0) : md_lp tx lim sub stk ou xs (n + 1) i s = md_lp tx lim sub stk ou xs n (md_nx xs i) (md_it tx lim sub stk ou xs i s).1 := (if_pos h).trans (if_pos h0)
theorem md_lp_no {tx : Nat → Option (List Int32)} {lim : Nat} {sub : Nat → List Int32 → md_S → Nat → md_R} {stk : List Nat} {ou : Nat} {xs : List Int32} {n i : Nat} {s : md_S} (h : i < xs.length) (h0 : ¬ (md_it tx lim sub stk ou xs i s).2.1 = 0) : md_lp tx lim sub stk ou xs (n + 1) i s = md_it tx lim sub stk ou xs i s := (if_pos h).trans (if_neg h0)
theorem md_df_end {xs : List Int32} {n i : Nat} {a : List Int32} (h : xs.length ≤ i) : md_df xs n i a = (a, 0, 0) := by
  cases n with
  | zero => rfl
  | succ n => exact if_neg (by omega)
theorem md_df_go {xs : List Int32} {n i : Nat} {a : List Int32} (h : i < xs.length) (h0 : (md_dit xs i a).2.1 = 0) : md_df xs (n + 1) i a = md_df xs n (md_nx xs i) (md_dit xs i a).1 := (if_pos h).trans (if_pos h0)
theorem md_df_no {xs : List Int32} {n i : Nat} {a : List Int32} (h : i < xs.length) (h0 : ¬ (md_dit xs i a).2.1 = 0) : md_df xs (n + 1) i a = md_dit xs i a := (if_pos h).trans (if_neg h0)
