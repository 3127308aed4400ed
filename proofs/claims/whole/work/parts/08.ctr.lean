/-! CONTRACTS of methods over the abstract machine, and calls by them -/
def am_wp (X : am_X) (nL : Nat) (cc : ByteArray) (sh : am_S) (fl : Nat → Option (Nat × Nat × Nat)) (kc : Nat → Option am_V) (ro : Option (Nat × (Nat → Int32))) (rb : Nat) (cs : Nat → List am_V → am_D → am_K → Prop) (K : List Int32 → am_D → Prop) (cut : Nat → Bool) : Nat → Nat → am_L → List am_V → am_D → Prop
  | 0, pc, ls, st, D => am_aw X nL sh pc ls st D
  | n + 1, pc, ls, st, D => match cut pc with
    | true => am_aw X nL sh pc ls st D
    | false => am_ex sh fl kc ro rb cs K (am_wp X nL cc sh fl kc ro rb cs K cut n) cc pc ls st D
theorem am_run {X : am_X} {own : String} {cc : ByteArray} {nL : Nat} {sh : am_S} {fl : Nat → Option (Nat × Nat × Nat)} {kc : Nat → Option am_V} {ro : Option (Nat × (Nat → Int32))} {rb : Nat} {cs : Nat → List am_V → am_D → am_K → Prop} {K : List Int32 → am_D → Prop} (O : am_ok X own cc nL sh fl kc ro rb cs K) (cut : Nat → Bool) : ∀ (n : Nat) {pc : Nat} {ls : am_L} {st : List am_V} {D : am_D}, am_wp X nL cc sh fl kc ro rb cs K cut n pc ls st D → am_aw X nL sh pc ls st D
  | 0, _, _, _, _, h => h
  | n + 1, pc, ls, st, D, h => by
    unfold am_wp at h
    cases hc : cut pc with
    | true => rw [hc] at h; exact h
    | false => rw [hc] at h; exact am_sound O (fun _ _ _ _ h => am_run O cut n h) h
/-- the same from a cut place itself: its instruction is done first -/
theorem am_run1 {X : am_X} {own : String} {cc : ByteArray} {nL : Nat} {sh : am_S} {fl : Nat → Option (Nat × Nat × Nat)} {kc : Nat → Option am_V} {ro : Option (Nat × (Nat → Int32))} {rb : Nat} {cs : Nat → List am_V → am_D → am_K → Prop} {K : List Int32 → am_D → Prop} (O : am_ok X own cc nL sh fl kc ro rb cs K) (cut : Nat → Bool) (n : Nat) {pc : Nat} {ls : am_L} {st : List am_V} {D : am_D} (h : am_ex sh fl kc ro rb cs K (am_wp X nL cc sh fl kc ro rb cs K cut n) cc pc ls st D) : am_aw X nL sh pc ls st D := am_sound O (fun _ _ _ _ h => am_run O cut n h) h
def am_gt : List Cond := lw_tbl.filter goodWord
theorem am_gin {w : Cond} (h : w ∈ lw_tbl) (hg : goodWord w = true) : w ∈ am_gt := List.mem_filter.mpr ⟨h, hg⟩
theorem am_gok {big : List Cond} (h : ∀ w ∈ am_gt, w ∈ big) {v : Cond} (hv : v ∈ am_gt) : GoodIn big (v :: am_gt) := by
  intro w hw
  have hm : w ∈ am_gt := by
    rcases List.mem_cons.mp hw with e | e
    · rw [e]; exact hv
    · exact e
  exact ⟨h w hm, good_of_word (List.mem_filter.mp hm).2⟩
/-- what stands beside the world: the constant text, and that texts are compact -/
def am_Z (A : Nat → Prop) (U : State) (H : Heap) : Prop := va_Z "java/lang/String" "COMPACT_STRINGS" "Z" (.int 1) A U H ∧ ∃ adK adV : Nat → Nat, vk_S 1 [6] [[99, 107, 112, 115, 108, 116]] adK adV A U H ∧ vk_R RX5 53 "ckpslt" (adK 0) U ∧ vk_R RX7 80 "ckpslt" (adK 0) U
theorem am_Z.kept {A : Nat → Prop} {U : State} {H H1 : Heap} (h : am_Z A U H) (hq : ∀ a : Nat, a < H.size → ¬ A a → H1[a]? = H[a]?) : am_Z A U H1 := by
  obtain ⟨h1, adK, adV, h2, h3, h4⟩ := h
  exact ⟨h1.kept hq, adK, adV, h2.kept hq, h3, h4⟩
theorem am_Z.narrow {A B : Nat → Prop} {U : State} {H : Heap} (h : am_Z A U H) (hAB : ∀ q, B q → A q) : am_Z B U H := by
  obtain ⟨h1, adK, adV, h2, h3, h4⟩ := h
  exact ⟨h1.narrow hAB, adK, adV, h2.narrow hAB, h3, h4⟩
theorem am_Z.warm {A : Nat → Prop} {s U : State} {H : Heap} (hW : s.WarmedH U.vm) (h : am_Z A s H) : am_Z A U H := by
  obtain ⟨h1, adK, adV, h2, h3, h4⟩ := h
  exact ⟨h1.moved hW.alike, adK, adV, h2.moved hW.alike, h3.warm hW, h4.warm hW⟩
theorem am_Z.same {A : Nat → Prop} {s U : State} {H : Heap} (hv : U.vm = s.vm) (h : am_Z A s H) : am_Z A U H := by
  obtain ⟨h1, adK, adV, h2, h3, h4⟩ := h
  have ha : s.vm.Alike U.vm := by rw [hv]; exact Vm.Alike.refl s.vm
  exact ⟨h1.moved ha, adK, adV, h2.moved ha, h3.same hv, h4.same hv⟩
def am_av (ad : Nat → Nat) : List (Option Nat) → List Int32 → List Value
  | [], _ => []
  | some p :: pat, is => .ref (ad p) :: am_av ad pat is
  | none :: pat, x :: is => .int x :: am_av ad pat is
  | none :: pat, [] => .int 0 :: am_av ad pat []
/-- the state at a method's start -/
def am_pre (dC : Nat → ClassId) (dI : Nat → Nat → Nat) (cA : ClassId) (ad : Nat → Nat) (sh : am_S) (D : am_D) (sz : Nat) (U : State) : Prop := U.heap.size = sz ∧ va_P (dC, dI) vwCl (am_w cA ad 0 sh D) U.heap ∧ va_K (dC, dI) vwCl [(cA, .int)] U ∧ va_D (fun _ => True) (am_w cA ad 0 sh D) ∧ am_Z (va_A (am_w cA ad 0 sh D) sz) U U.heap
def am_post (dC : Nat → ClassId) (dI : Nat → Nat → Nat) (cA : ClassId) (ad : Nat → Nat) (sh : am_S) (A : Nat → Prop) (K : List Int32 → am_D → Prop) : Array Value → State → Outcome → State → Prop := fun _ st oc t => (∃ (rs : List Int32) (D : am_D), oc = .returned (rs.head?.map Value.int) ∧ rs.length ≤ 1 ∧ K rs D ∧ D.length = sh.length ∧ va_P (dC, dI) vwCl (am_w cA ad 0 sh D) t.heap ∧ va_D A (am_w cA ad 0 sh D)) ∧ va_F A st t
/-- THE CONTRACT: what the method's answer and world are, as a transformer T of what is asked behind it -/
def am_ctr (y : MethodName) (cc : ByteArray) (nL : Nat) (ret : Option FieldType) (fr lo : Nat) (sh : am_S) (pat : List (Option Nat)) (T : List Int32 → am_D → (List Int32 → am_D → Prop) → Prop) : Prop :=
  ∀ (l : Launch) (dC : Nat → ClassId) (dI : Nat → Nat → Nat) (cA : ClassId) (ad : Nat → Nat) (sz : Nat) (is : List Int32) (D : am_D) (K : List Int32 → am_D → Prop), T is D K → is.length = (pat.filter Option.isNone).length → D.length = sh.length →
    Met l y (.code y cc nL ret :: am_gt) { frames := fr, cells := 0, slots := 0, locals := lo } (va_Pc (am_av ad pat is) (am_pre dC dI cA ad sh D sz)) (am_post dC dI cA ad sh (va_A (am_w cA ad 0 sh D) sz) K) 0 0 (va_A (am_w cA ad 0 sh D) sz)
def am_ag (e : List Nat) : List (Option Nat) → List am_V → Option (List Int32)
  | [], [] => some []
  | none :: pat, .inl x :: as => (am_ag e pat as).map (x :: ·)
  | some q :: pat, .inr p :: as => if e[q]? = some p then am_ag e pat as else none
  | _, _ => none
def am_put : List Nat → am_D → am_D → am_D
  | p :: e, d :: ds, D => am_put e ds (D.set p d)
  | _, _, D => D
def am_site (n : Nat) (pat : List (Option Nat)) (T : List Int32 → am_D → (List Int32 → am_D → Prop) → Prop) (e fe : List Nat) (st : List am_V) (D : am_D) (k : am_K) : Prop := match am_ag fe pat (st.take n).reverse with
  | some is => (st.drop n).length ≤ 8 ∧ T is (e.map (fun p => D.getD p (.inl []))) (fun rs d => k (rs.map .inl ++ st.drop n) (am_put e d D))
  | none => False
def am_mt (e : List Nat) : am_T → am_T
  | .inl n => .inl n
  | .inr o => .inr (o.1, o.2.map (fun f => match f with
    | .inl i => .inl i
    | .inr q => .inr (e.getD q 0)))
/-- the callee's shape, laid into the caller's at the places e; fe: e, and where the callee's places lie that have no cell in its world -/
def am_pre2 : List Nat → List Nat → Bool
  | [], _ => true
  | a :: l, b :: r => decide (a = b) && am_pre2 l r
  | _ :: _, [] => false
theorem am_pre2_at : ∀ (l r : List Nat), am_pre2 l r = true → ∀ (j p : Nat), l[j]? = some p → r[j]? = some p
  | [], _, _, j, p, h => by simp at h
  | a :: l, b :: r, hp, 0, p, h => by
    simp only [am_pre2, Bool.and_eq_true, decide_eq_true_eq] at hp
    rw [← hp.1]
    exact h
  | a :: l, b :: r, hp, j + 1, p, h => by
    simp only [am_pre2, Bool.and_eq_true, decide_eq_true_eq] at hp
    exact am_pre2_at l r hp.2 j p h
  | a :: l, [], hp, j, p, h => by simp [am_pre2] at hp
def am_fit (e fe : List Nat) (sh' sh : am_S) : Bool := va_nd e && am_pre2 e fe && decide (e.map (fun p => sh[p]?) = sh'.map (fun t => some (am_mt fe t)))
