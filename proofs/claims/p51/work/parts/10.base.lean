/-! Contracts by equations, loops by functions. -/
theorem up_eq {E : Nat → va_E} {k : Nat} {e : va_E} : va_up E k e k = e := if_pos rfl
theorem up_ne {E : Nat → va_E} {j k : Nat} {e : va_E} (h : j ≠ k) : va_up E k e j = E j := if_neg h
theorem up_up {E : Nat → va_E} {k : Nat} {e e' : va_E} : va_up (va_up E k e) k e' = va_up E k e' := by
  funext j
  unfold va_up
  by_cases h : j = k
  · rw [if_pos h, if_pos h]
  · rw [if_neg h, if_neg h, if_neg h]
theorem up_self {E : Nat → va_E} {k : Nat} {e : va_E} (h : E k = e) : va_up E k e = E := by
  funext j
  unfold va_up
  by_cases q : j = k
  · rw [if_pos q, q, h]
  · rw [if_neg q]
theorem up_comm {E : Nat → va_E} {j k : Nat} {e e' : va_E} (h : j ≠ k) : va_up (va_up E j e) k e' = va_up (va_up E k e') j e := by
  funext i
  unfold va_up
  by_cases q : i = j
  · subst q
    rw [if_neg h, if_pos rfl, if_pos rfl]
  · by_cases r : i = k
    · subst r
      rw [if_pos rfl, if_neg q, if_pos rfl]
    · rw [if_neg r, if_neg q, if_neg q, if_neg r]
theorem nI_le' {a b : Nat} (ha : a < 2 ^ 31) (hb : b < 2 ^ 31) (h : a ≤ b) : nI a ≤ nI b := (nI_leI ha hb).mpr h
theorem nI_nle' {a b : Nat} (ha : a < 2 ^ 31) (hb : b < 2 ^ 31) (h : b < a) : ¬ nI a ≤ nI b := fun q => absurd ((nI_leI ha hb).mp q) (Nat.not_le.mpr h)
theorem nI_lt' {a b : Nat} (ha : a < 2 ^ 31) (hb : b < 2 ^ 31) (h : a < b) : nI a < nI b := (nI_ltI ha hb).mpr h
theorem nI_nlt' {a b : Nat} (ha : a < 2 ^ 31) (hb : b < 2 ^ 31) (h : b ≤ a) : ¬ nI a < nI b := fun q => absurd ((nI_ltI ha hb).mp q) (Nat.not_lt.mpr h)
theorem nI_eq' {a b : Nat} (h : a = b) : nI a = nI b := h ▸ rfl
theorem nI_ne' {a b : Nat} (ha : a < 2 ^ 31) (hb : b < 2 ^ 31) (h : a ≠ b) : ¬ nI a = nI b := fun q => absurd ((nI_eq ha hb).mp q) h
section JB
variable {g : jG} {M M' : jM} {d bc bs d' pc nA idx : Nat} {L : List (Option Value)} {st rest As : List Value} {n : Nat} {ad : Nat → Nat} {E E' : Nat → va_E} {Φ : Option Value → jR} {Ψ : String → jR}
/-- M, called so, answers v and leaves the world E' -/
def Ret (g : jG) (M : jM) (d : Nat) (As : List Value) (n : Nat) (ad : Nat → Nat) (E : Nat → va_E) (v : Option Value) (E' : Nat → va_E) : Prop := ∀ (Φ : Option Value → jR) (Ψ : String → jR), Φ v n ad E' → JE g M d 0 0 As n ad E Φ Ψ
/-- M, called so, throws an X and changes nothing -/
def Thr (g : jG) (M : jM) (d : Nat) (As : List Value) (n : Nat) (ad : Nat → Nat) (E : Nat → va_E) (X : String) : Prop := ∀ (Φ : Option Value → jR) (Ψ : String → jR), Ψ X n ad E → JE g M d 1 6 As n ad E Φ Ψ
theorem j_E (h : E = E') (k : J g M d bc bs pc L st n ad E' Φ Ψ) : J g M d bc bs pc L st n ad E Φ Ψ := h ▸ k
theorem j_st {st' : List Value} (h : st = st') (k : J g M d bc bs pc L st' n ad E Φ Ψ) : J g M d bc bs pc L st n ad E Φ Ψ := h ▸ k
theorem Ret.dep {v : Option Value} (h : Ret g M d' As n ad E v E') (q : d' ≤ d) : Ret g M d As n ad E v E' := fun Φ Ψ p => j_dep q (h Φ Ψ p)
theorem Thr.dep {X : String} (h : Thr g M d' As n ad E X) (q : d' ≤ d) : Thr g M d As n ad E X := fun Φ Ψ p => j_dep q (h Φ Ψ p)
def eqP (v : Option Value) (n : Nat) (ad : Nat → Nat) (E : Nat → va_E) : Option Value → jR := fun v' n' ad' E' => v' = v ∧ n' = n ∧ ad' = ad ∧ E' = E
def eqX (X : String) (n : Nat) (ad : Nat → Nat) (E : Nat → va_E) : String → jR := fun X' n' ad' E' => X' = X ∧ n' = n ∧ ad' = ad ∧ E' = E
theorem j_cV {k ci N0 : Nat} {T0 : u_T} {fs : List Value} {v : Option Value} (f : jYm M' nA) (fi : Cond.instanceMethod M'.1 ∈ TT) (fs' : Cond.selects M'.1.cls M'.1 M'.1 ∈ TT) (hh : M'.2.2.2.2 = []) (hl : Cond.methodLink M.1.cls idx M'.1 ∈ TT) (hcl : vwCl[ci]? = some (M'.1.cls, T0, N0)) (hd : decode M.2.1 pc = .ok (.invokevirtual idx, 3)) (hdep : d' + 1 ≤ d) (hk : k < n) (hE : E k = .inr (ci, fs)) (hA : As.length = nA) (hst : As.reverse ++ .ref (ad k) :: rest = st) (hcat : (rest.map fun v => v.category).sum ≤ 8) (hnL : (lg_sl (.ref (ad k) :: As)).length ≤ M'.2.2.1)
    (hJ : Ret g M' d' (.ref (ad k) :: As) n ad E v E') (kk : J g M d bc bs (pc + 3) L (v.toList ++ rest) n ad E' Φ Ψ) : J g M d bc bs pc L st n ad E Φ Ψ := by
  have h := j_callV (bc := bc) (bs := bs) (L := L) (Φ := Φ) (Ψ := Ψ) (Ψ' := fun _ _ _ _ => False) f fi fs' hh hl hcl hd hdep hk hE hA hst hcat hnL (hJ (eqP v n ad E') _ ⟨rfl, rfl, rfl, rfl⟩) (fun v' n' ad' E'' q => by obtain ⟨rfl, rfl, rfl, rfl⟩ := q; exact kk) (fun _ _ _ _ q => q.elim)
  rwa [Nat.zero_add, Nat.zero_add] at h
theorem j_cVx {k ci N0 : Nat} {T0 : u_T} {fs : List Value} {X : String} (f : jYm M' nA) (fi : Cond.instanceMethod M'.1 ∈ TT) (fs' : Cond.selects M'.1.cls M'.1 M'.1 ∈ TT) (hh : M'.2.2.2.2 = []) (hl : Cond.methodLink M.1.cls idx M'.1 ∈ TT) (hcl : vwCl[ci]? = some (M'.1.cls, T0, N0)) (hd : decode M.2.1 pc = .ok (.invokevirtual idx, 3)) (hdep : d' + 1 ≤ d) (hk : k < n) (hE : E k = .inr (ci, fs)) (hA : As.length = nA) (hst : As.reverse ++ .ref (ad k) :: rest = st) (hcat : (rest.map fun v => v.category).sum ≤ 8) (hnL : (lg_sl (.ref (ad k) :: As)).length ≤ M'.2.2.1)
    (hJ : Thr g M' d' (.ref (ad k) :: As) n ad E X) (kk : jMeets g M d 0 0 pc L Φ Ψ X n ad E) : J g M d 1 6 pc L st n ad E Φ Ψ :=
  j_callV (bc := 0) (bs := 0) (L := L) (Φ := Φ) (Ψ := Ψ) (Φ' := fun _ _ _ _ => False) f fi fs' hh hl hcl hd hdep hk hE hA hst hcat hnL (hJ _ (eqX X n ad E) ⟨rfl, rfl, rfl, rfl⟩) (fun _ _ _ _ q => q.elim) (fun X' n' ad' E'' q => by obtain ⟨rfl, rfl, rfl, rfl⟩ := q; exact kk)
theorem j_cS {v : Option Value} (f : jYm M' nA) (fi : Cond.static M'.1 ∈ TT) (hl : Cond.methodLink M.1.cls idx M'.1 ∈ TT) (hd : decode M.2.1 pc = .ok (.invokestatic idx, 3)) (hdep : d' + 1 ≤ d) (hA : As.length = nA) (hst : As.reverse ++ rest = st) (hcat : (rest.map fun v => v.category).sum ≤ 8) (hnL : (lg_sl As).length ≤ M'.2.2.1)
    (hJ : Ret g M' d' As n ad E v E') (kk : J g M d bc bs (pc + 3) L (v.toList ++ rest) n ad E' Φ Ψ) : J g M d bc bs pc L st n ad E Φ Ψ := by
  have h := j_callS (bc := bc) (bs := bs) (L := L) (Φ := Φ) (Ψ := Ψ) (Ψ' := fun _ _ _ _ => False) f fi hl hd hdep hA hst hcat hnL (hJ (eqP v n ad E') _ ⟨rfl, rfl, rfl, rfl⟩) (fun v' n' ad' E'' q => by obtain ⟨rfl, rfl, rfl, rfl⟩ := q; exact kk) (fun _ _ _ _ q => q.elim)
  rwa [Nat.zero_add, Nat.zero_add] at h
theorem j_cSx {X : String} (f : jYm M' nA) (fi : Cond.static M'.1 ∈ TT) (hl : Cond.methodLink M.1.cls idx M'.1 ∈ TT) (hd : decode M.2.1 pc = .ok (.invokestatic idx, 3)) (hdep : d' + 1 ≤ d) (hA : As.length = nA) (hst : As.reverse ++ rest = st) (hcat : (rest.map fun v => v.category).sum ≤ 8) (hnL : (lg_sl As).length ≤ M'.2.2.1)
    (hJ : Thr g M' d' As n ad E X) (kk : jMeets g M d 0 0 pc L Φ Ψ X n ad E) : J g M d 1 6 pc L st n ad E Φ Ψ :=
  j_callS (bc := 0) (bs := 0) (L := L) (Φ := Φ) (Ψ := Ψ) (Φ' := fun _ _ _ _ => False) f fi hl hd hdep hA hst hcat hnL (hJ _ (eqX X n ad E) ⟨rfl, rfl, rfl, rfl⟩) (fun _ _ _ _ q => q.elim) (fun X' n' ad' E'' q => by obtain ⟨rfl, rfl, rfl, rfl⟩ := q; exact kk)
theorem j_aret {a : Nat} (hd : decode M.2.1 pc = .ok (.areturn, 1)) (hr : M.2.2.2.1 = some (.array .int)) (h : Φ (some (.ref a)) n ad E) : J g M d bc bs pc L [.ref a] n ad E Φ Ψ := by
  intro l p e R s m args below meth c H locs cells slots ls C h1 h2 hW hS hl
  refine vx_ret (W.widen (k := R.cells) (n := R.slots) (by omega) (by omega) ?_)
  exact W.aret C.1 C.2.1 (C.2.2.2.1.trans hr) (Or.inr ⟨_, rfl⟩) (Or.inr ⟨_, rfl⟩) (fun t ht hq => ⟨⟨_, _, _, _, rfl, h, by rw [ht]; exact hW⟩, hS.F ht⟩) hS.2.2 hd C.2.2.2.2.1
/-- a local that is not used any more -/
theorem j_clr (i : Nat) (k : J g M d bc bs pc (L.set i none) st n ad E Φ Ψ) : J g M d bc bs pc L st n ad E Φ Ψ := by
  refine j_locals (L' := L.set i none) (fun j v h => ?_) k
  rw [List.getElem?_set] at h
  by_cases q : i = j
  · rw [if_pos q] at h
    split at h <;> cases h
  · rwa [if_neg q] at h
theorem jMeets_out {X : String} (h0 : M.2.2.2.2 = []) (h : Ψ X n ad E) : jMeets g M d bc bs pc L Φ Ψ X n ad E := Or.inl ⟨h0, h⟩
end JB
/-- k rounds of b from the number j on -/
def lpf {α : Type} (b : Nat → α → α) : Nat → Nat → α → α
  | _, 0, a => a
  | j, k + 1, a => lpf b (j + 1) k (b j a)
theorem lpf_ind {α : Type} {b : Nat → α → α} {P : Nat → α → Prop} {N : Nat} (j0 : Nat) (hs : ∀ j a, j0 ≤ j → j < N → (∀ x, x = b j a → P (j + 1) x) → P j a) (k : Nat) (a : α) (h : j0 + k = N) (q : P N (lpf b j0 k a)) : P j0 a := by
  have key : ∀ (k j : Nat) (a : α), j0 ≤ j → j + k = N → P N (lpf b j k a) → P j a := by
    intro k
    induction k with
    | zero =>
      intro j a _ h q
      have : j = N := by omega
      subst this
      exact q
    | succ k ih =>
      intro j a h0 h q
      exact hs j a h0 (by omega) (fun x hx => by rw [hx]; exact ih (j + 1) (b j a) (by omega) (by omega) q)
  exact key k j0 a (Nat.le_refl _) h q
theorem up_ind {P : Nat → Prop} {N : Nat} (j0 : Nat) (hs : ∀ j, j0 ≤ j → j < N → P (j + 1) → P j) (k : Nat) (h : j0 + k = N) (q : P N) : P j0 := by
  have key : ∀ (k j : Nat), j0 ≤ j → j + k = N → P N → P j := by
    intro k
    induction k with
    | zero =>
      intro j _ h q
      have : j = N := by omega
      subst this
      exact q
    | succ k ih =>
      intro j h0 h q
      exact hs j h0 (by omega) (ih (j + 1) (by omega) (by omega) q)
  exact key k j0 (Nat.le_refl _) h q
theorem lpf_congr {α : Type} {b b' : Nat → α → α} : ∀ (k j : Nat) (a : α), (∀ i x, j ≤ i → i < j + k → b i x = b' i x) → lpf b j k a = lpf b' j k a := by
  intro k
  induction k with
  | zero => intro j a _; rfl
  | succ k ih =>
    intro j a h
    show lpf b (j + 1) k (b j a) = lpf b' (j + 1) k (b' j a)
    rw [h j a (Nat.le_refl _) (by omega)]
    exact ih (j + 1) _ (fun i x q1 q2 => h i x (by omega) (by omega))
/-- rounds that may end early with an answer -/
def lpe {α β : Type} (b : Nat → α → α ⊕ β) : Nat → Nat → α → α ⊕ β
  | _, 0, a => .inl a
  | j, k + 1, a => match b j a with
    | .inl a' => lpe b (j + 1) k a'
    | .inr r => .inr r
/-- what is owed behind an early end, or behind the last round -/
def lpeP {α β : Type} (Pa : α → Prop) (Pb : β → Prop) : α ⊕ β → Prop
  | .inl a => Pa a
  | .inr r => Pb r
theorem lpe_ind {α β : Type} {b : Nat → α → α ⊕ β} {P : Nat → α → Prop} {Pb : β → Prop} {N : Nat} (j0 : Nat) (hs : ∀ j a, j0 ≤ j → j < N → (∀ x, x = b j a → lpeP (P (j + 1)) Pb x) → P j a) (k : Nat) (a : α) (h : j0 + k = N) (q : lpeP (P N) Pb (lpe b j0 k a)) : P j0 a := by
  have key : ∀ (k j : Nat) (a : α), j0 ≤ j → j + k = N → lpeP (P N) Pb (lpe b j k a) → P j a := by
    intro k
    induction k with
    | zero =>
      intro j a _ h q
      have : j = N := by omega
      subst this
      exact q
    | succ k ih =>
      intro j a h0 h q
      refine hs j a h0 (by omega) (fun x hx => ?_)
      unfold lpe at q
      rw [← hx] at q
      cases x with
      | inl a' => exact ih (j + 1) a' (by omega) (by omega) q
      | inr r => exact q
  exact key k j0 a (Nat.le_refl _) h q
theorem lpe_congr {α β : Type} {b b' : Nat → α → α ⊕ β} : ∀ (k j : Nat) (a : α), (∀ i x, j ≤ i → i < j + k → b i x = b' i x) → lpe b j k a = lpe b' j k a := by
  intro k
  induction k with
  | zero => intro j a _; rfl
  | succ k ih =>
    intro j a h
    unfold lpe
    rw [h j a (Nat.le_refl _) (by omega)]
    cases b' j a with
    | inl a' => exact ih (j + 1) _ (fun i x q1 q2 => h i x (by omega) (by omega))
    | inr r => rfl
