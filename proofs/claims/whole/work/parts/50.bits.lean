/-! the fewest cars, in bits: both ways of looking for them find the same -/
theorem pcT1 : ∀ s, s < 512 → ∀ n, n < 10 → ¬ s < 2 ^ n ∨ pc s ≤ n := by decide +kernel
theorem pcT2 : ∀ s, s < 512 → ∀ n, n < 10 → ¬ (s < 2 ^ n ∧ pc s = n) ∨ s = 2 ^ n - 1 := by decide +kernel
theorem pcT3 : ∀ s, s < 512 → s = 0 ∨ 0 < pc s := by decide +kernel
theorem pcT (s : Nat) (hs : s < 512) (n : Nat) (hn : n < 10) (h : s < 2 ^ n) : pc s ≤ n ∧ (pc s = n → s = 2 ^ n - 1) ∧ (0 < s → 0 < pc s) := ⟨(pcT1 s hs n hn).resolve_left (fun z => z h), fun e => (pcT2 s hs n hn).resolve_left (fun z => z ⟨h, e⟩), fun h0 => (pcT3 s hs).resolve_left (by omega)⟩
theorem ffU_spec {p : Nat → Bool} : ∀ (k m : Nat), (∀ b, ffU p m k = some b → m ≤ b ∧ b < m + k ∧ p b = true ∧ ∀ j, m ≤ j → j < b → p j = false) ∧ (ffU p m k = none → ∀ j, m ≤ j → j < m + k → p j = false)
  | 0, m => ⟨fun b h => (by cases h), fun _ j h1 h2 => by omega⟩
  | k + 1, m => by
    obtain ⟨a1, a2⟩ := ffU_spec (p := p) k (m + 1)
    rw [ffU_s]
    by_cases h : p m = true
    · rw [if_pos h]
      exact ⟨fun b e => (by cases e; exact ⟨Nat.le_refl _, by omega, h, fun j h1 h2 => by omega⟩), fun e => (by cases e)⟩
    · rw [if_neg h]
      have h : p m = false := by cases hb : p m with | false => rfl | true => exact absurd hb h
      refine ⟨fun b e => ?_, fun e j h1 h2 => ?_⟩
      · obtain ⟨b1, b2, b3, b4⟩ := a1 b e
        refine ⟨by omega, by omega, b3, fun j h1 h2 => ?_⟩
        by_cases e : j = m
        · rw [e]; exact h
        · exact b4 j (by omega) h2
      · by_cases e2 : j = m
        · rw [e2]; exact h
        · exact a2 e j (by omega) (by omega)
abbrev ffQ (q : Nat → Bool) (lo cnt s k : Nat) : Option Nat := ffS (fun t a => decide (pc a = t) && q a) lo cnt s k
theorem ffS_spec {q : Nat → Bool} {lo cnt : Nat} : ∀ (k s : Nat), (∀ b, ffQ q lo cnt s k = some b → lo ≤ b ∧ b < lo + cnt ∧ q b = true ∧ s ≤ pc b ∧ pc b < s + k ∧ ∀ j, lo ≤ j → j < lo + cnt → q j = true → s ≤ pc j → pc b < pc j ∨ (pc b = pc j ∧ b ≤ j)) ∧ (ffQ q lo cnt s k = none → ∀ j, lo ≤ j → j < lo + cnt → q j = true → s ≤ pc j → s + k ≤ pc j)
  | 0, s => ⟨fun b h => (by cases h), fun _ j _ _ _ h => by omega⟩
  | k + 1, s => by
    obtain ⟨a1, a2⟩ := ffS_spec (q := q) (lo := lo) (cnt := cnt) k (s + 1)
    obtain ⟨u1, u2⟩ := ffU_spec (p := fun a => decide (pc a = s) && q a) cnt lo
    have step : ffQ q lo cnt s (k + 1) = match ffU (fun a => decide (pc a = s) && q a) lo cnt with
      | some b => some b
      | none => ffQ q lo cnt (s + 1) k := by unfold ffQ; rw [ffS]; cases ffU (fun a => decide (pc a = s) && q a) lo cnt <;> rfl
    rw [step]
    cases hu : ffU (fun a => decide (pc a = s) && q a) lo cnt with
    | some b =>
      obtain ⟨b1, b2, b3, b4⟩ := u1 b hu
      simp only [Bool.and_eq_true, decide_eq_true_eq] at b3
      refine ⟨fun b' e => ?_, fun e => by cases e⟩
      cases e
      refine ⟨b1, b2, b3.2, by omega, by omega, fun j h1 h2 h3 h4 => ?_⟩
      by_cases e : pc j = s
      · right
        refine ⟨by omega, ?_⟩
        rcases Nat.lt_or_ge j b with q1 | q1
        · have := b4 j h1 q1
          simp [e, h3] at this
        · exact q1
      · left; omega
    | none =>
      have hno := u2 hu
      have key : ∀ j, lo ≤ j → j < lo + cnt → q j = true → s ≤ pc j → s + 1 ≤ pc j := by
        intro j h1 h2 h3 h4
        have := hno j h1 h2
        simp only [h3, Bool.and_true, decide_eq_false_iff_not] at this
        omega
      refine ⟨fun b e => ?_, fun e j h1 h2 h3 h4 => ?_⟩
      · obtain ⟨c1, c2, c3, c4, c5, c6⟩ := a1 b e
        exact ⟨c1, c2, c3, by omega, by omega, fun j h1 h2 h3 h4 => c6 j h1 h2 h3 (key j h1 h2 h3 h4)⟩
      · have := a2 e j h1 h2 h3 (key j h1 h2 h3 h4)
        omega
def fdM (p : Nat → Bool) : Nat → Option Nat
  | 0 => none
  | s + 1 => match fdM p s with
    | none => if p s = true then some s else none
    | some f => if pc s < pc f ∧ p s = true then some s else some f
theorem fdM_spec {p : Nat → Bool} : ∀ m, (∀ f, fdM p m = some f → f < m ∧ p f = true ∧ ∀ s, s < m → p s = true → pc f < pc s ∨ (pc f = pc s ∧ f ≤ s)) ∧ (fdM p m = none → ∀ s, s < m → p s = false)
  | 0 => ⟨fun f h => (by cases h), fun _ s h => by omega⟩
  | m + 1 => by
    obtain ⟨a1, a2⟩ := fdM_spec (p := p) m
    have step : fdM p (m + 1) = match fdM p m with
      | none => if p m = true then some m else none
      | some f => if pc m < pc f ∧ p m = true then some m else some f := by rw [fdM]
    rw [step]
    cases hf : fdM p m with
    | none =>
      have h0 := a2 hf
      by_cases hp : p m = true
      · simp only [if_pos hp]
        refine ⟨fun f e => ?_, fun e => by cases e⟩
        cases e
        refine ⟨Nat.lt_succ_self m, hp, fun s h1 h2 => ?_⟩
        by_cases e : s = m
        · right; rw [e]; exact ⟨rfl, Nat.le_refl m⟩
        · have := h0 s (by omega)
          rw [h2] at this
          cases this
      · simp only [if_neg hp]
        refine ⟨fun f e => (by cases e), fun _ s h1 => ?_⟩
        by_cases e : s = m
        · rw [e]; cases hb : p m with | false => rfl | true => exact absurd hb hp
        · exact h0 s (by omega)
    | some g =>
      obtain ⟨b1, b2, b3⟩ := a1 g hf
      by_cases hc : pc m < pc g ∧ p m = true
      · simp only [if_pos hc]
        refine ⟨fun f e => ?_, fun e => by cases e⟩
        cases e
        refine ⟨Nat.lt_succ_self m, hc.2, fun s h1 h2 => ?_⟩
        by_cases e : s = m
        · right; rw [e]; exact ⟨rfl, Nat.le_refl m⟩
        · have := b3 s (by omega) h2
          left; omega
      · simp only [if_neg hc]
        refine ⟨fun f e => ?_, fun e => by cases e⟩
        cases e
        refine ⟨by omega, b2, fun s h1 h2 => ?_⟩
        by_cases e : s = m
        · rw [e] at h2 ⊢
          have : ¬ pc m < pc g := fun z => hc ⟨z, h2⟩
          omega
        · exact b3 s (by omega) h2
theorem fd_ff {p : Nat → Bool} {n : Nat} (hn : n ≤ 9) (h0 : p 0 = false) : fdM p (2 ^ n) = ffQ p 1 (2 ^ n - 1) 1 n := by
  obtain ⟨h1, h2⟩ := p2_le n (by omega)
  have hpc : ∀ s, s < 2 ^ n → p s = true → 0 < pc s ∧ pc s ≤ n ∧ 0 < s := by
    intro s hs hp
    have hs0 : 0 < s := by
      rcases Nat.eq_zero_or_pos s with e | e
      · rw [e, h0] at hp; cases hp
      · exact e
    obtain ⟨a1, -, a3⟩ := pcT s (by omega) n (by omega) hs
    exact ⟨a3 hs0, a1, hs0⟩
  obtain ⟨a1, a2⟩ := fdM_spec (p := p) (2 ^ n)
  obtain ⟨b1, b2⟩ := ffS_spec (q := p) (lo := 1) (cnt := 2 ^ n - 1) n 1
  cases hf : fdM p (2 ^ n) with
  | none =>
    cases hg : ffQ p 1 (2 ^ n - 1) 1 n with
    | none => rfl
    | some b =>
      obtain ⟨c1, c2, c3, -⟩ := b1 b hg
      have := a2 hf b (by omega)
      rw [c3] at this
      cases this
  | some f =>
    obtain ⟨d1, d2, d3⟩ := a1 f hf
    obtain ⟨e1, e2, e3⟩ := hpc f d1 d2
    cases hg : ffQ p 1 (2 ^ n - 1) 1 n with
    | none =>
      have := b2 hg f (by omega) (by omega) d2 (by omega)
      omega
    | some b =>
      obtain ⟨c1, c2, c3, c4, c5, c6⟩ := b1 b hg
      have g1 := c6 f (by omega) (by omega) d2 (by omega)
      have g2 := d3 b (by omega) c3
      congr 1
      omega
def fdK (p : Nat → Bool) (T : Nat) : Nat → Nat
  | 0 => T
  | s + 1 => if pc s < pc (fdK p T s) ∧ p s = true then s else fdK p T s
theorem fdK_spec {p : Nat → Bool} {T : Nat} : ∀ m, (fdK p T m = T ∨ (fdK p T m < m ∧ p (fdK p T m) = true)) ∧ pc (fdK p T m) ≤ pc T ∧ ∀ s, s < m → p s = true → pc s < pc T → pc (fdK p T m) < pc s ∨ (pc (fdK p T m) = pc s ∧ fdK p T m ≤ s)
  | 0 => ⟨Or.inl rfl, Nat.le_refl _, fun s h => by omega⟩
  | m + 1 => by
    obtain ⟨a1, a2, a3⟩ := fdK_spec (p := p) (T := T) m
    unfold fdK
    by_cases hc : pc m < pc (fdK p T m) ∧ p m = true
    · simp only [if_pos hc]
      refine ⟨Or.inr ⟨Nat.lt_succ_self m, hc.2⟩, by omega, fun s h1 h2 h3 => ?_⟩
      by_cases e : s = m
      · right; rw [e]; exact ⟨rfl, Nat.le_refl m⟩
      · have := a3 s (by omega) h2 h3
        left; omega
    · simp only [if_neg hc]
      refine ⟨a1.elim Or.inl (fun h => Or.inr ⟨by omega, h.2⟩), a2, fun s h1 h2 h3 => ?_⟩
      by_cases e : s = m
      · rw [e] at h2 h3 ⊢
        have h4 : ¬ pc m < pc (fdK p T m) := fun z => hc ⟨z, h2⟩
        rcases a1 with g | g
        · rw [g] at h4; omega
        · omega
      · exact a3 s (by omega) h2 h3
theorem pcF : ∀ n, n < 10 → pc (2 ^ n - 1) = n := by decide +kernel
theorem fdK_ff {p : Nat → Bool} {n : Nat} (hn : n ≤ 9) : fdK p (2 ^ n - 1) (2 ^ n) = (ffQ p 0 (2 ^ n) 0 (n + 1)).getD (2 ^ n - 1) := by
  obtain ⟨h1, h2⟩ := p2_le n (by omega)
  have hpc : ∀ s, s < 2 ^ n → pc s ≤ n ∧ (pc s = n → s = 2 ^ n - 1) := fun s hs => ⟨(pcT s (by omega) n (by omega) hs).1, (pcT s (by omega) n (by omega) hs).2.1⟩
  have hT : pc (2 ^ n - 1) ≤ n := (hpc _ (by omega)).1
  obtain ⟨a1, a2, a3⟩ := fdK_spec (p := p) (T := 2 ^ n - 1) (2 ^ n)
  obtain ⟨b1, b2⟩ := ffS_spec (q := p) (lo := 0) (cnt := 2 ^ n) (n + 1) 0
  have hTn : ∀ s, s < 2 ^ n → ¬ pc s < pc (2 ^ n - 1) → pc (2 ^ n - 1) = n → s = 2 ^ n - 1 := fun s hs h e => (hpc s hs).2 (by have := (hpc s hs).1; omega)
  have hTe : pc (2 ^ n - 1) = n := pcF n (by omega)
  generalize fdK p (2 ^ n - 1) (2 ^ n) = f at a1 a2 a3
  cases hg : ffQ p 0 (2 ^ n) 0 (n + 1) with
  | none =>
    show f = 2 ^ n - 1
    rcases a1 with g | g
    · exact g
    · have := b2 hg f (by omega) (by omega) g.2 (by omega)
      have := (hpc f g.1).1
      omega
  | some b =>
    show f = b
    obtain ⟨c1, c2, c3, c4, c5, c6⟩ := b1 b hg
    by_cases hb : pc b < pc (2 ^ n - 1)
    · have g1 := a3 b (by omega) c3 hb
      rcases a1 with g | g
      · rw [g] at g1; omega
      · have g2 := c6 f (by omega) (by omega) g.2 (by omega)
        omega
    · have e := hTn b (by omega) hb hTe
      rcases a1 with g | g
      · omega
      · have g2 := c6 f (by omega) (by omega) g.2 (by omega)
        have g3 := (hpc f g.1).2
        have g4 := (hpc f g.1).1
        rcases g2 with g2 | g2
        · rw [e] at g2; omega
        · have := g3 (by rw [e] at g2; omega)
          omega
