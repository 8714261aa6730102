/-! Tests, parts, gains, sending down: v is the row of the values of one attribute, w the row of the weights, n the number of cases, T the row of the types. -/
def zm_br (k : Nat) (t v : Int32) : Nat := if k = 0 then (if v ≤ t then 0 else 1) else v.toNatClampNeg
def zm_nb (k : Nat) : Nat := if k = 0 then 2 else k
def zm_pt (k : Nat) (t : Int32) (v : Nat → Int32) (w : Nat → Nat) (n b : Nat) : Nat := zm_s (fun i => if 0 ≤ v i ∧ zm_br k t (v i) = b then w i else 0) n
def zm_kn (v : Nat → Int32) (w : Nat → Nat) (n : Nat) : Nat := zm_s (fun i => if 0 ≤ v i then w i else 0) n
def zm_un (v : Nat → Int32) (w : Nat → Nat) (n : Nat) : Nat := zm_s (fun i => if 0 ≤ v i then 0 else w i) n
def zm_cw (T : Nat → Nat) (w : Nat → Nat) (n c : Nat) : Nat := zm_s (fun i => if T i = c then w i else 0) n
def zm_mx (k : Nat) (t : Int32) (v : Nat → Int32) (T : Nat → Nat) (w : Nat → Nat) (n b c : Nat) : Nat := zm_s (fun i => if 0 ≤ v i ∧ zm_br k t (v i) = b ∧ T i = c then w i else 0) n
def zm_kc (v : Nat → Int32) (T : Nat → Nat) (w : Nat → Nat) (n c : Nat) : Nat := zm_s (fun i => if 0 ≤ v i ∧ T i = c then w i else 0) n
def zm_gn (k : Nat) (t : Int32) (v : Nat → Int32) (T : Nat → Nat) (w : Nat → Nat) (n : Nat) : Int64 :=
  zm_info (zm_kc v T w n) 3 - zm_info (zm_mx k t v T w n 0) 3 - zm_info (zm_mx k t v T w n 1) 3 - zm_info (zm_mx k t v T w n 2) 3 - zm_info (zm_mx k t v T w n 3) 3
def zm_pu (k : Nat) (t : Int32) (v : Nat → Int32) (w : Nat → Nat) (n b : Nat) : Nat := if b < 4 then zm_pt k t v w n b else zm_un v w n
def zm_sp (k : Nat) (t : Int32) (v : Nat → Int32) (w : Nat → Nat) (n : Nat) : Int64 := zm_info (zm_pu k t v w n) 5
def zm_ct (p : Nat → Nat) (m : Nat) : Nat → Nat
  | 0 => 0
  | b + 1 => if 720 * m ≤ p b then zm_ct p m b + 1 else zm_ct p m b
def zm_va (k : Nat) (t : Int32) (v : Nat → Int32) (w : Nat → Nat) (n m : Nat) : Prop := 2 ≤ zm_ct (zm_pt k t v w n) m 4
def zm_qs (p : Nat → Nat) (K h x : Nat) : Nat → Nat
  | 0 => 0
  | b + 1 => if b = h then zm_qs p K h x b else zm_qs p K h x b + x * p b / K
/-- what goes into branch b of the weight x of a case whose value is y, by a test with the parts p, their sum K and the branch h with the greatest -/
def zm_ps (k : Nat) (t : Int32) (p : Nat → Nat) (K h x : Nat) (y : Int32) (b : Nat) : Nat :=
  if 0 ≤ y then (if zm_br k t y = b then x else 0) else if K = 0 then (if b = 0 then x else 0) else if b = h then x - zm_qs p K h x (zm_nb k) else x * p b / K
def zm_sd (k : Nat) (t : Int32) (v : Nat → Int32) (w : Nat → Nat) (n b i : Nat) : Nat :=
  zm_ps k t (zm_pt k t v w n) (zm_kn v w n) (zm_fg (zm_pt k t v w n) 4) (w i) (v i) b
/-! the test of an attribute -/
def zm_nv (v : Nat → Int32) (w : Nat → Nat) (x : Int32) : Nat → Int32
  | 0 => -1
  | n + 1 => if 0 < w n ∧ x < v n ∧ (zm_nv v w x n = -1 ∨ v n < zm_nv v w x n) then v n else zm_nv v w x n
def zm_vu (v : Nat → Int32) (x : Int32) : Nat → Int32
  | 0 => -1
  | n + 1 => if v n ≤ x ∧ zm_vu v x n < v n then v n else zm_vu v x n
def zm_of (v : Nat → Int32) (T : Nat → Nat) (w : Nat → Nat) (n m : Nat) (t : Int32) (r : Nat × Int64 × Int32) : Nat × Int64 × Int32 :=
  if 2 ≤ zm_ct (zm_pt 0 t v w n) m 4 then (if r.1 = 0 ∨ r.2.1 < zm_gn 0 t v T w n then (r.1 + 1, zm_gn 0 t v T w n, t) else (r.1 + 1, r.2)) else r
/-- the lowest first: how many are valid, the greatest gain, its threshold -/
def zm_cl (v : Nat → Int32) (T : Nat → Nat) (w : Nat → Nat) (n m : Nat) : Nat → Int32 → Nat × Int64 × Int32 → Nat × Int64 × Int32
  | 0, _, r => r
  | f + 1, x, r => if zm_nv v w x n < 0 then r else
    zm_cl v T w n m f (zm_nv v w x n) (zm_of v T w n m (zm_vu v ((x + zm_nv v w x n) / 2) n) r)
