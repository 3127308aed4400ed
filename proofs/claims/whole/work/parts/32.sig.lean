/-! THE STATE of a run: the road, the road kept, the letters, the numbers told, the refusals; what each call answers and leaves -/
abbrev sh_Out : am_S := [.inr (5, [.inr 1, .inr 7, .inl 0, .inr 13, .inr 15, .inl 1, .inr 16, .inr 17, .inr 23, .inr 29, .inr 42]), .inr (3, [.inl 0, .inl 1, .inl 2, .inr 2, .inr 3, .inr 4, .inr 5, .inr 6]), .inl 9, .inl 9, .inl 9, .inl 9, .inl 9, .inr (3, [.inl 0, .inl 1, .inl 2, .inr 8, .inr 9, .inr 10, .inr 11, .inr 12]), .inl 9, .inl 9, .inl 9, .inl 9, .inl 9, .inr (4, [.inl 0, .inr 14]), .inl 96, .inl 12, .inl 7, .inr (3, [.inl 0, .inl 1, .inl 2, .inr 18, .inr 19, .inr 20, .inr 21, .inr 22]), .inl 9, .inl 9, .inl 9, .inl 9, .inl 9, .inr (2, [.inr 24, .inr 25, .inr 26, .inl 0, .inl 1, .inr 27, .inr 28, .inl 2, .inl 3, .inl 4, .inl 5, .inl 6, .inl 7, .inl 8]), .inl 9, .inl 9, .inl 9, .inl 9, .inl 9, .inr (0, [.inr 30, .inr 36]), .inr (3, [.inl 0, .inl 1, .inl 2, .inr 31, .inr 32, .inr 33, .inr 34, .inr 35]), .inl 9, .inl 9, .inl 9, .inl 9, .inl 9, .inr (2, [.inr 37, .inr 38, .inr 39, .inl 0, .inl 1, .inr 40, .inr 41, .inl 2, .inl 3, .inl 4, .inl 5, .inl 6, .inl 7, .inl 8]), .inl 9, .inl 9, .inl 9, .inl 9, .inl 9, .inr (1, [.inr 43, .inr 49, .inr 55, .inr 56, .inl 0]), .inr (3, [.inl 0, .inl 1, .inl 2, .inr 44, .inr 45, .inr 46, .inr 47, .inr 48]), .inl 9, .inl 9, .inl 9, .inl 9, .inl 9, .inr (2, [.inr 50, .inr 51, .inr 52, .inl 0, .inl 1, .inr 53, .inr 54, .inl 2, .inl 3, .inl 4, .inl 5, .inl 6, .inl 7, .inl 8]), .inl 9, .inl 9, .inl 9, .inl 9, .inl 9, .inl 4, .inl 4]
def gnZ (L : List (Nat × Nat × Nat)) (z m : Nat) : Nat := gn L z m
abbrev Sg : Type := RS × Option RS × List Nat × List Nat × (Nat → Int32)
abbrev gN (σ : Sg) : Nat := σ.1.1
abbrev gb (σ : Sg) : Nat := σ.1.2.1
abbrev gw (σ : Sg) : Nat := σ.1.2.2.1
abbrev gk (σ : Sg) : Nat → Nat := σ.1.2.2.2.1
abbrev gf (σ : Sg) : Nat → Nat := σ.1.2.2.2.2.1
abbrev gl (σ : Sg) : Nat → Nat := σ.1.2.2.2.2.2.1
abbrev gh (σ : Sg) : Nat → Nat := σ.1.2.2.2.2.2.2.1
abbrev gq (σ : Sg) : List Nat := σ.1.2.2.2.2.2.2.2
/-- the turns -/
abbrev gL (σ : Sg) : List (Nat × Nat × Nat) := simA (gb σ) (gw σ) (gk σ) (gf σ) (gl σ) (gq σ) 0
abbrev gC (σ : Sg) : Nat := cst (gh σ) (gL σ)
abbrev gR (σ : Sg) (x : RS) : Sg := (x, σ.2)
def rfs (k : Nat) (σ : Sg) : Int32 × Sg := (-(nI k), (σ.1, σ.2.1, σ.2.2.1, σ.2.2.2.1, upd σ.2.2.2.2 k (σ.2.2.2.2 k + 1)))
def xi (n : Nat) (c : Int32) : Option Nat := if 0 ≤ c ∧ c < nI n then some c.toNatClampNeg else none
theorem xi_some {n : Nat} (hn : n ≤ 9) {c : Int32} {j : Nat} (h : xi n c = some j) : j < n ∧ c = nI j := by
  unfold xi at h
  split at h
  next hc =>
    obtain ⟨i, hi, rfl⟩ := (has_iff hn c).mp hc
    rw [nI_clamp (by omega)] at h
    cases h
    exact ⟨hi, rfl⟩
  next => cases h
theorem xi_none {n : Nat} (hn : n ≤ 9) {c : Int32} (h : xi n c = none) : ¬ ∃ j, j < n ∧ c = nI j := by
  unfold xi at h
  split at h
  next hc => cases h
  next hc => rw [← has_iff hn]; exact hc
theorem xi_nI {n j : Nat} (hn : n ≤ 9) (h : j < n) : xi n (nI j) = some j := by
  cases hx : xi n (nI j) with
  | none => exact absurd ⟨j, h, rfl⟩ (xi_none hn hx)
  | some i =>
    obtain ⟨h1, h2⟩ := xi_some hn hx
    rw [(nI_eq (by omega) (by omega)).mp h2]
def boh (o : Option Nat) (w : Int32) : Int32 := match o with
  | some s => if w = 0 then nI s else nI (pc s)
  | none => -9
def lkF (f : Nat → Nat) : Nat → Option Nat × Nat
  | 0 => (none, 0)
  | m + 1 => if (lkF f m).2 < f m then (some m, f m) else lkF f m
def gpF (L : List (Nat × Nat × Nat)) : Nat → Option Nat × Nat
  | 0 => (none, 0)
  | i + 1 => if (gpF L i).1 = none ∨ (gpF L i).2 < wt_ L (i + 1) - wt_ L i then (some i, wt_ L (i + 1) - wt_ L i) else gpF L i
/-- the first number told that isn't so -/
def fns (to : List Nat) (L : List (Nat × Nat × Nat)) : Option Nat := ffU (fun i => decide (L.length ≤ i ∨ ¬ cr_ L i = to.getD i 0)) 0 to.length
def f_letter (c : Int32) (σ : Sg) : Int32 × Sg := if 0 ≤ c then (if 255 < c then rfs 6 σ else if 96 ≤ σ.2.2.1.length then rfs 6 σ else (nI (σ.2.2.1.length + 1), (σ.1, σ.2.1, σ.2.2.1 ++ [c.toNatClampNeg], σ.2.2.2))) else rfs 4 σ
def f_road (σ : Sg) : Int32 × Sg := ((rdR σ.2.2.1 σ.1).1, ((rdR σ.2.2.1 σ.1).2, σ.2.1, [], σ.2.2.2))
def f_car (c w : Int32) (σ : Sg) : Int32 × Sg := match xi (gN σ) c with
  | none => rfs 1 σ
  | some j => if w = 0 then (nI (gk σ j), σ) else if w = 1 then (nI (gf σ j), σ) else if w = 2 then (nI (gl σ j), σ) else if w = 3 then (nI (gh σ j), σ) else if w = 4 then (nI (((gq σ).filter (fun z => gl σ z = gl σ j)).idxOf j), σ) else if w = 5 then (nI (lt (gk σ j) (gf σ j) (gb σ)), σ) else if w = 6 then (nI (sc (gk σ j)), σ) else rfs 2 σ
def f_hurry (c v : Int32) (σ : Sg) : Int32 × Sg := match xi (gN σ) c with
  | none => rfs 1 σ
  | some j => if 0 ≤ v then (if v ≤ 20 then (nI (gh σ j), gR σ (gN σ, gb σ, gw σ, gk σ, gf σ, gl σ, va_up (gh σ) j v.toNatClampNeg, gq σ)) else rfs 6 σ) else rfs 4 σ
def x_over (x : RS) (j : Nat) : RS := (x.1, x.2.1, x.2.2.1, x.2.2.2.1, x.2.2.2.2.1, va_up x.2.2.2.2.2.1 j (1 - x.2.2.2.2.2.1 j), x.2.2.2.2.2.2.1, x.2.2.2.2.2.2.2.erase j ++ [j])
def x_front (x : RS) (j : Nat) : RS := (x.1, x.2.1, x.2.2.1, x.2.2.2.1, x.2.2.2.2.1, x.2.2.2.2.2.1, x.2.2.2.2.2.2.1, j :: x.2.2.2.2.2.2.2.erase j)
def x_place (x : RS) (j : Nat) : Nat := (x.2.2.2.2.2.2.2.filter (fun z => x.2.2.2.2.2.1 z = x.2.2.2.2.2.1 j)).idxOf j
def f_goOver (c : Int32) (σ : Sg) : Int32 × Sg := match xi (gN σ) c with
  | none => rfs 1 σ
  | some j => (nI (x_place (x_over σ.1 j) j), gR σ (x_over σ.1 j))
def f_standFirst (c : Int32) (σ : Sg) : Int32 × Sg := match xi (gN σ) c with
  | none => rfs 1 σ
  | some j => (nI (x_place σ.1 j), gR σ (x_front σ.1 j))
def f_set (w v : Int32) (σ : Sg) : Int32 × Sg := if w = 0 ∨ w = 1 then (if 0 ≤ v then (if w = 0 then (if v ≤ 2 then (nI (gb σ), gR σ (gN σ, v.toNatClampNeg, σ.1.2.2)) else rfs 6 σ) else (if v ≤ 9 then (nI (gw σ), gR σ (gN σ, gb σ, v.toNatClampNeg, σ.1.2.2.2)) else rfs 6 σ)) else rfs 4 σ) else rfs 2 σ
def f_order (t : Int32) (σ : Sg) : Int32 × Sg := match xi (gN σ) t with
  | none => rfs 1 σ
  | some j => (nI (cr_ (gL σ) j), σ)
def f_of (c w : Int32) (σ : Sg) : Int32 × Sg := match xi (gN σ) c with
  | none => rfs 1 σ
  | some j => if w = 0 ∨ w = 1 then (if w = 0 then (nI (wtc (gL σ) j), σ) else (nI (tu_ (gL σ) j), σ)) else rfs 2 σ
def f_sums (w : Int32) (σ : Sg) : Int32 × Sg := if w = 0 then (nI (tot (gL σ)), σ) else if w = 1 then (nI (wts (gL σ)), σ) else if w = 2 then (nI (gC σ), σ) else if w = 3 then (nI (stt (gL σ)).2.1, σ) else if w = 4 then (nI (stt (gL σ)).2.2.2, σ) else rfs 2 σ
def f_queue (z v : Int32) (σ : Sg) : Int32 × Sg := if z = 0 ∨ z = 1 then (if 0 ≤ v then (if v ≤ nI (gN σ) then (nI (((gq σ).filter (fun c => gl σ c = z.toNatClampNeg)).length) - nI (gnZ (gL σ) z.toNatClampNeg v.toNatClampNeg), σ) else rfs 6 σ) else rfs 4 σ) else rfs 1 σ
def f_bestBoard (σ : Sg) : Int32 × Sg := (nI (mnS (fun j => cst (gh σ) (simA j (gw σ) (gk σ) (gf σ) (gl σ) (gq σ) 0)) 3).1, σ)
def f_mv (fr : Bool) (w : Int32) (σ : Sg) : Int32 × Sg := if w = 0 ∨ w = 1 then (oC (lsF (cMv (gb σ) (gw σ) (gk σ) (gf σ) (gl σ) (gh σ) (gq σ) fr) (gC σ) (gN σ)) (decide (w = 1)), σ) else rfs 2 σ
def f_lets (σ : Sg) : Int32 × Sg := (oI (lsF (cKf (gb σ) (gw σ) (gk σ) (gf σ) (gl σ) (gh σ) (gq σ)) (gC σ) (10 * gN σ)).1, σ)
def f_few (md : Bool) (w : Int32) (σ : Sg) : Int32 × Sg := if w = 0 ∨ w = 1 then (boh (ffS (fun s a => decide (pc a = s) && rch (gN σ) (gb σ) (gw σ) (gk σ) (gf σ) (gl σ) (gh σ) (gq σ) md a) 1 (2 ^ gN σ - 1) 1 (gN σ)) w, σ) else rfs 2 σ
def f_loses (c o : Int32) (σ : Sg) : Int32 × Sg := match xi (gN σ) c, xi (gN σ) o with
  | some i, some j => if i = j then (1000000000 - (rfs 1 σ).1, (rfs 1 σ).2) else (iI (lsz (gb σ) (gw σ) (gk σ) (gf σ) (gl σ) (gq σ) i j), σ)
  | _, _ => (1000000000 - (rfs 1 σ).1, (rfs 1 σ).2)
def f_byWhom (c : Int32) (σ : Sg) : Int32 × Sg := match xi (gN σ) c with
  | none => rfs 1 σ
  | some j => (oI (lsM (lsz (gb σ) (gw σ) (gk σ) (gf σ) (gl σ) (gq σ) j) j (gN σ)).1, σ)
def f_two (c o : Int32) (σ : Sg) : Int32 × Sg := match xi (gN σ) c, xi (gN σ) o with
  | some i, some j => if i = j then rfs 1 σ else (prI (ffU (stp (gb σ) (gw σ) (gk σ) (gf σ) (gl σ) (gq σ) i j) 0 4), σ)
  | _, _ => rfs 1 σ
def f_fair (σ : Sg) : Int32 × Sg := (nI (sm (ov (gL σ)) (gN σ)), σ)
def f_lucky (σ : Sg) : Int32 × Sg := (oI (lkF (ov (gL σ)) (gN σ)).1, σ)
def f_away (σ : Sg) : Int32 × Sg := (oI (lsN (fun c => cst (gh σ) (simA (gb σ) (gw σ) (gk σ) (gf σ) (gl σ) (gq σ) (2 ^ c))) (gN σ)).1, σ)
def f_wider (σ : Sg) : Int32 × Sg := (nI (sm (fun c => sc (gk σ c) - max 1 (sc (gk σ c) - 1)) (gN σ)), σ)
def f_gap (w : Int32) (σ : Sg) : Int32 × Sg := if w = 0 ∨ w = 1 then (if w = 0 then (nI (gpF (gL σ) ((gL σ).length - 1)).2, σ) else (oI (gpF (gL σ) ((gL σ).length - 1)).1, σ)) else rfs 2 σ
def f_even (v : Int32) (σ : Sg) : Int32 × Sg := if 0 ≤ v then (if v ≤ 99 then (oI (ffU (fun x => decide (v.toNatClampNeg ≤ tot (simA (gb σ) x (gk σ) (gf σ) (gl σ) (gq σ) 0))) 0 10), σ) else rfs 6 σ) else rfs 4 σ
def f_keep (v w : Int32) (σ : Sg) : Int32 × Sg := if 0 ≤ v then (if v ≤ 99 then (if w = 0 ∨ w = 1 then (boh (some ((ffS (fun s a => decide (pc a = s) && wth (gb σ) (gw σ) (gk σ) (gf σ) (gl σ) (gq σ) v.toNatClampNeg a) 0 (2 ^ gN σ) 0 (gN σ + 1)).getD (2 ^ gN σ - 1))) w, σ) else rfs 2 σ) else rfs 6 σ) else rfs 4 σ
/-- would the turns be as told, were a car of that kind (of that figure) -/
def wfn (σ : Sg) (j : Nat) (w : Int32) (v : Nat) : Bool := decide (fns σ.2.2.2.1 (if w = 0 then simA (gb σ) (gw σ) (va_up (gk σ) j v) (gf σ) (gl σ) (gq σ) 0 else simA (gb σ) (gw σ) (gk σ) (va_up (gf σ) j v) (gl σ) (gq σ) 0) = none)
def wbt (p : Nat → Bool) (m : Nat) : Nat := sm (fun v => if p v then 2 ^ v else 0) m
def f_who (c w : Int32) (σ : Sg) : Int32 × Sg := match xi (gN σ) c with
  | none => rfs 1 σ
  | some j => if w = 0 ∨ w = 1 then (nI (wbt (wfn σ j w) (if w = 0 then 6 else 10)), σ) else rfs 2 σ
def f_row (v : Int32) (σ : Sg) : Int32 × Sg := if 0 ≤ v then (if 99 < v then rfs 6 σ else if 12 ≤ σ.2.2.2.1.length then rfs 6 σ else (nI (σ.2.2.2.1.length + 1), (σ.1, σ.2.1, σ.2.2.1, σ.2.2.2.1 ++ [v.toNatClampNeg], σ.2.2.2.2))) else rfs 4 σ
def f_judge (σ : Sg) : Int32 × Sg := (oI (fns σ.2.2.2.1 (gL σ)), (σ.1, σ.2.1, σ.2.2.1, [], σ.2.2.2.2))
def f_clear (σ : Sg) : Int32 × Sg := (nI σ.2.2.2.1.length, (σ.1, σ.2.1, σ.2.2.1, [], σ.2.2.2.2))
def f_lots (v z w : Int32) (σ : Sg) : Int32 × Sg := if 1 ≤ v then (if v ≤ 20 then (if w = 0 ∨ w = 1 then (nI (sm (vlZ (gb σ) (gw σ) (gk σ) (gf σ) (gh σ) (gN σ) z (decide (w = 1))) v.toNatClampNeg), σ) else rfs 2 σ) else rfs 6 σ) else rfs 4 σ
def f_image (σ : Sg) : Int32 × Sg := (nI (gN σ), (σ.1, some σ.1, σ.2.2))
def f_on (σ : Sg) : Int32 × Sg := match σ.2.1 with
  | none => rfs 3 σ
  | some y => (nI y.1, (y, σ.2))
def f_count (w : Int32) (σ : Sg) : Int32 × Sg := if w = 0 then (nI (gN σ), σ) else if w = 1 then (nI ((gq σ).filter (fun c => gl σ c = 0)).length, σ) else if w = 2 then (nI ((gq σ).filter (fun c => gl σ c = 1)).length, σ) else if w = 3 then (nI (gb σ), σ) else if w = 4 then (nI (gw σ), σ) else if w = 5 then (nI (sm (gh σ) (gN σ)), σ) else if w = 6 then (nI (sm (fun c => sc (gk σ c)) (gN σ)), σ) else if w = 7 then (nI σ.2.2.2.1.length, σ) else if w = 8 then (nI σ.2.2.1.length, σ) else if 11 ≤ w ∧ w ≤ 16 then (σ.2.2.2.2 (w.toNatClampNeg - 10), σ) else (-9, σ)
/-- the class's world -/
def kpX (o : Option RS) (ik : Int32) (D : am_D) : Prop := match o with
  | none => ik = 0 ∧ rF D
  | some y => ik = 1 ∧ rS y D
def tdX (to : List Nat) (u : Nat → Int32) : Prop := to.length ≤ 12 ∧ (∀ j, j < to.length → u j = nI (to.getD j 0)) ∧ ∀ v ∈ to, v ≤ 99
def IX (σ : Sg) (D : am_D) : Prop := ∃ (ik : Int32) (n0 n1 n2 n3 n4 n5 k0 k1 k2 k3 k4 k5 t0 t1 : am_C) (u0 : Nat → Int32) (r0 r1 r2 r3 r4 r5 p0 p1 p2 p3 p4 p5 a0 a1 a2 a3 a4 a5 q0 q1 q2 q3 q4 q5 : am_C) (sd : Int32) (b0 b1 b2 b3 b4 b5 s0 s1 s2 s3 s4 s5 : am_C) (w1 w2 : Nat → Int32), D = [.inl [ik, nI σ.2.2.2.1.length], n0, n1, n2, n3, n4, n5, k0, k1, k2, k3, k4, k5, t0, t1, .inr u0, .inr σ.2.2.2.2, r0, r1, r2, r3, r4, r5, p0, p1, p2, p3, p4, p5, .inl [], a0, a1, a2, a3, a4, a5, q0, q1, q2, q3, q4, q5, .inl [sd], b0, b1, b2, b3, b4, b5, s0, s1, s2, s3, s4, s5, .inr w1, .inr w2] ∧ rS σ.1 [n0, n1, n2, n3, n4, n5] ∧ kpX σ.2.1 ik [k0, k1, k2, k3, k4, k5] ∧ tX σ.2.2.1 [t0, t1] ∧ tdX σ.2.2.2.1 u0 ∧ rF [r0, r1, r2, r3, r4, r5] ∧ pF [p0, p1, p2, p3, p4, p5] ∧ rF [a0, a1, a2, a3, a4, a5] ∧ pF [q0, q1, q2, q3, q4, q5] ∧ rF [b0, b1, b2, b3, b4, b5] ∧ pF [s0, s1, s2, s3, s4, s5]
theorem am_put_all : ∀ (i : Nat) (d D0 D : am_D), d.length = D.length → am_put ((List.range D.length).map (fun x => x + i)) d (D0 ++ D) = D0 ++ d ∨ ¬ D0.length = i := by
  intro i d D0 D
  induction D generalizing i d D0 with
  | nil =>
    intro h
    have : d = [] := List.length_eq_zero_iff.mp h
    subst this
    exact Or.inl rfl
  | cons x D ih =>
    intro h
    by_cases hi : D0.length = i
    · left
      cases d with
      | nil => simp at h
      | cons y d =>
        have hl : d.length = D.length := by simpa using h
        have h1 := ih (i + 1) d (D0 ++ [y]) hl
        rw [List.length_append, hi] at h1
        have h2 := h1.resolve_right (fun z => z rfl)
        rw [List.length_cons, List.range_succ_eq_map, List.map_cons, List.map_map]
        show am_put (List.map _ _) d ((D0 ++ x :: D).set (0 + i) y) = _
        rw [Nat.zero_add, ← hi, List.set_append_right _ _ (Nat.le_refl _), Nat.sub_self, List.set_cons_zero]
        have e : ((fun z => z + D0.length) ∘ Nat.succ) = fun z => z + (D0.length + 1) := by funext z; simp only [Function.comp]; omega
        rw [e, hi, ← List.singleton_append, ← List.append_assoc, h2, List.append_assoc]
        rfl
    · exact Or.inr hi
theorem am_put_al {d D : am_D} (h : d.length = D.length) : am_put (List.range D.length) d D = d := by
  have h1 := (am_put_all 0 d [] D h).resolve_right (fun z => z rfl)
  simpa using h1
theorem am_map_al : ∀ (D : am_D), (List.range D.length).map (fun p => D.getD p (.inl [])) = D := by
  intro D
  apply List.ext_getElem
  · simp
  · intro i h1 h2
    simp [List.getD_eq_getElem?_getD, h2]
theorem ix_len {σ : Sg} {D : am_D} (h : IX σ D) : D.length = 57 := by
  obtain ⟨ik, n0, n1, n2, n3, n4, n5, k0, k1, k2, k3, k4, k5, t0, t1, u0, r0, r1, r2, r3, r4, r5, p0, p1, p2, p3, p4, p5, a0, a1, a2, a3, a4, a5, q0, q1, q2, q3, q4, q5, sd, b0, b1, b2, b3, b4, b5, s0, s1, s2, s3, s4, s5, w1, w2, rfl, -⟩ := h
  rfl
theorem ix_put {σ σ' : Sg} {D D' : am_D} (h : IX σ D) (h' : IX σ' D') : am_put [0, 1, 2, 3, 4, 5, 6, 7, 8, 9, 10, 11, 12, 13, 14, 15, 16, 17, 18, 19, 20, 21, 22, 23, 24, 25, 26, 27, 28, 29, 30, 31, 32, 33, 34, 35, 36, 37, 38, 39, 40, 41, 42, 43, 44, 45, 46, 47, 48, 49, 50, 51, 52, 53, 54, 55, 56] D' D = D' := by
  have h1 := am_put_al (d := D') (D := D) (by rw [ix_len h, ix_len h'])
  rw [ix_len h] at h1
  exact h1
theorem am_nrm {X : am_X} {nL pc : Nat} {sh : am_S} {ls : am_L} {st st' : List am_V} {D D' : am_D} (h1 : am_fzs st = some st') (h2 : D = D') (k : am_aw X nL sh pc ls st' D') : am_aw X nL sh pc ls st D := by
  rw [am_fzs_eq _ _ h1, ← h2] at k
  exact k
/-- the spine of a list of cells laid open -/
def am_fq : am_D → Option am_D
  | [] => some []
  | c :: l => match am_fq l with
    | some r => some (c :: r)
    | none => none
theorem am_fq_eq : ∀ (l r : am_D), am_fq l = some r → r = l
  | [], r, h => by cases h; rfl
  | c :: l, r, h => by
    unfold am_fq at h
    cases hu : am_fq l with
    | none => rw [hu] at h; cases h
    | some r' => rw [hu] at h; cases h; rw [am_fq_eq l r' hu]
theorem am_nrq {X : am_X} {nL pc : Nat} {sh : am_S} {ls : am_L} {st st' : List am_V} {D D' : am_D} (h1 : am_fzs st = some st') (h2 : am_fq D = some D') (k : am_aw X nL sh pc ls st' D') : am_aw X nL sh pc ls st D := am_nrm h1 (am_fq_eq _ _ h2).symm k
def am_s0 (I : Sg → am_D → Prop) (f : Sg → Int32 × Sg) : am_TT := fun is D K => ∃ σ, I σ D ∧ is = [] ∧ ∀ D', I (f σ).2 D' → K [(f σ).1] D'
def am_s1 (I : Sg → am_D → Prop) (f : Int32 → Sg → Int32 × Sg) : am_TT := fun is D K => ∃ σ a, I σ D ∧ is = [a] ∧ ∀ D', I (f a σ).2 D' → K [(f a σ).1] D'
def am_s2 (I : Sg → am_D → Prop) (f : Int32 → Int32 → Sg → Int32 × Sg) : am_TT := fun is D K => ∃ σ a b, I σ D ∧ is = [a, b] ∧ ∀ D', I (f a b σ).2 D' → K [(f a b σ).1] D'
def am_s3 (I : Sg → am_D → Prop) (f : Int32 → Int32 → Int32 → Sg → Int32 × Sg) : am_TT := fun is D K => ∃ σ a b c, I σ D ∧ is = [a, b, c] ∧ ∀ D', I (f a b c σ).2 D' → K [(f a b c σ).1] D'
