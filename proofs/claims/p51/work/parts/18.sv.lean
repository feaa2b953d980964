/-! What the law's own Sim holds, at any places. -/
def swR (o t : Nat) (r : Nat → Nat) : Nat → Nat := fun f => r (swp o t f)
/-- a Sim object at w: its rows' array at iL, the rows at r f, the edges at iE -/
def SV (g : jG) (n : Nat) (ad : Nat → Nat) (E : Nat → va_E) (w iL iE : Nat) (r : Nat → Nat) (F S : Nat) (sun hrs : Int32) (gone : Int64) (m : Nat → Nat → Int32) (e : Nat → Int32) (va vm : Value) : Prop :=
  (w < n ∧ iL < n ∧ iE < n ∧ ∀ f, f < F → r f < n) ∧ (w ≠ iL ∧ w ≠ iE ∧ iL ≠ iE ∧ ∀ f, f < F → r f ≠ w ∧ r f ≠ iL ∧ r f ≠ iE) ∧ (∀ f f', f < F → f' < F → r f = r f' → f = f') ∧ E w = .inr (4, [.ref (ad iL), .ref (ad iE), .int sun, .int hrs, .long gone, va, vm]) ∧ E iL = aO g F (fun f => if f < F then some (ad (r f)) else none) ∧ E iE = aI g S e ∧ (∀ f, f < F → E (r f) = aI g S (m f)) ∧ (1 ≤ F ∧ F ≤ 8) ∧ 1 ≤ S ∧ S ≤ 16
/-- rows that are not written: their array at i, the rows at r f -/
def MT (g : jG) (n : Nat) (ad : Nat → Nat) (E : Nat → va_E) (i : Nat) (r : Nat → Nat) (F S : Nat) (m : Nat → Nat → Int32) : Prop :=
  (i < n ∧ ∀ f, f < F → r f < n) ∧ E i = aO g F (fun f => if f < F then some (ad (r f)) else none) ∧ ∀ f, f < F → E (r f) = aI g S (m f)
section SVL
variable {g : jG} {n n' : Nat} {ad ad' : Nat → Nat} {E E' : Nat → va_E} {w iL iE : Nat} {r : Nat → Nat} {F S : Nat} {sun hrs sun' hrs' : Int32} {gone gone' : Int64} {m : Nat → Nat → Int32} {e e' : Nat → Int32} {va vm va' vm' : Value}
theorem SV.mt (V : SV g n ad E w iL iE r F S sun hrs gone m e va vm) : MT g n ad E iL r F S m := ⟨⟨V.1.2.1, V.1.2.2.2⟩, V.2.2.2.2.1, V.2.2.2.2.2.2.1⟩
theorem SV.setTop (V : SV g n ad E w iL iE r F S sun hrs gone m e va vm) : SV g n ad (va_up E w (.inr (4, [.ref (ad iL), .ref (ad iE), .int sun', .int hrs', .long gone', va', vm']))) w iL iE r F S sun' hrs' gone' m e va' vm' := by
  obtain ⟨h1, ⟨a1, a2, a3, a4⟩, h3, h4, h5, h6, h7, h8⟩ := V
  exact ⟨h1, ⟨a1, a2, a3, a4⟩, h3, up_eq, (up_ne (Ne.symm a1)).trans h5, (up_ne (Ne.symm a2)).trans h6, fun f hf => (up_ne (a4 f hf).1).trans (h7 f hf), h8⟩
theorem SV.setE (V : SV g n ad E w iL iE r F S sun hrs gone m e va vm) : SV g n ad (va_up E iE (aI g S e')) w iL iE r F S sun hrs gone m e' va vm := by
  obtain ⟨h1, ⟨a1, a2, a3, a4⟩, h3, h4, h5, h6, h7, h8⟩ := V
  exact ⟨h1, ⟨a1, a2, a3, a4⟩, h3, (up_ne a2).trans h4, (up_ne a3).trans h5, up_eq, fun f hf => (up_ne (a4 f hf).2.2).trans (h7 f hf), h8⟩
/-- row f0 written -/
def mup (m : Nat → Nat → Int32) (f0 : Nat) (h : Nat → Int32) : Nat → Nat → Int32 := fun f => if f = f0 then h else m f
theorem SV.setM {f0 : Nat} {h : Nat → Int32} (V : SV g n ad E w iL iE r F S sun hrs gone m e va vm) (hf0 : f0 < F) : SV g n ad (va_up E (r f0) (aI g S h)) w iL iE r F S sun hrs gone (mup m f0 h) e va vm := by
  obtain ⟨h1, ⟨a1, a2, a3, a4⟩, h3, h4, h5, h6, h7, h8⟩ := V
  refine ⟨h1, ⟨a1, a2, a3, a4⟩, h3, (up_ne (Ne.symm (a4 f0 hf0).1)).trans h4, (up_ne (Ne.symm (a4 f0 hf0).2.1)).trans h5, (up_ne (Ne.symm (a4 f0 hf0).2.2)).trans h6, fun f hf => ?_, h8⟩
  unfold mup
  by_cases q : f = f0
  · subst q
    rw [if_pos rfl]
    exact up_eq
  · rw [if_neg q]
    exact (up_ne (fun z => q (h3 f f0 hf hf0 z))).trans (h7 f hf)
/-- nothing of it is touched -/
theorem SV.kept (V : SV g n ad E w iL iE r F S sun hrs gone m e va vm) (h : ∀ k, k = w ∨ k = iL ∨ k = iE ∨ (∃ f, f < F ∧ k = r f) → E' k = E k) : SV g n ad E' w iL iE r F S sun hrs gone m e va vm := by
  obtain ⟨h1, h2, h3, h4, h5, h6, h7, h8⟩ := V
  exact ⟨h1, h2, h3, (h _ (Or.inl rfl)).trans h4, (h _ (Or.inr (Or.inl rfl))).trans h5, (h _ (Or.inr (Or.inr (Or.inl rfl)))).trans h6, fun f hf => (h _ (Or.inr (Or.inr (Or.inr ⟨f, hf, rfl⟩)))).trans (h7 f hf), h8⟩
theorem aO_cg {N : Nat} {f f' : Nat → Option Nat} (h : f = f') : aO g N f = aO g N f' := h ▸ rfl
theorem aP_cg {N : Nat} {f f' : Nat → Option Nat} (h : f = f') : aP g N f = aP g N f' := h ▸ rfl
theorem refs_cg {c : Nat} {j : Nat → Nat} (ha : ∀ k, k < c → ad' (j k) = ad (j k)) : (fun k => if k < c then some (ad (j k)) else none) = (fun k => if k < c then some (ad' (j k)) else none) := by
  funext k
  by_cases h : k < c
  · rw [if_pos h, if_pos h, ha k h]
  · rw [if_neg h, if_neg h]
/-- the world has grown -/
theorem SV.tr (V : SV g n ad E w iL iE r F S sun hrs gone m e va vm) (hn : n ≤ n') (ha : ∀ i, i < n → ad' i = ad i) (hE : ∀ k, k < n → E' k = E k) : SV g n' ad' E' w iL iE r F S sun hrs gone m e va vm := by
  obtain ⟨⟨b1, b2, b3, b4⟩, h2, h3, h4, h5, h6, h7, h8⟩ := V
  refine ⟨⟨by omega, by omega, by omega, fun f hf => by have := b4 f hf; omega⟩, h2, h3, ?_, ?_, (hE _ b3).trans h6, fun f hf => (hE _ (b4 f hf)).trans (h7 f hf), h8⟩
  · rw [hE _ b1, h4, ha _ b2, ha _ b3]
  · rw [hE _ b2, h5]
    exact aO_cg (refs_cg (fun k hk => ha _ (b4 k hk)))
theorem MT.tr {i : Nat} (V : MT g n ad E i r F S m) (hn : n ≤ n') (ha : ∀ i, i < n → ad' i = ad i) (hE : ∀ k, k = i ∨ (∃ f, f < F ∧ k = r f) → E' k = E k) : MT g n' ad' E' i r F S m := by
  obtain ⟨⟨b1, b2⟩, h1, h2⟩ := V
  refine ⟨⟨by omega, fun f hf => by have := b2 f hf; omega⟩, ?_, fun f hf => (hE _ (Or.inr ⟨f, hf, rfl⟩)).trans (h2 f hf)⟩
  rw [hE _ (Or.inl rfl), h1]
  exact aO_cg (refs_cg (fun k hk => ha _ (b2 k hk)))
/-- a list of kept rows, away from the places X -/
def KL (g : jG) (n : Nat) (ad : Nat → Nat) (E : Nat → va_E) (X : Nat → Prop) (i c F S : Nat) (A : Nat → Nat → Nat → Int32) : Prop :=
  (i < n ∧ ¬ X i) ∧ ∃ (j : Nat → Nat) (q : Nat → Nat → Nat), E i = aP g c (fun k => if k < c then some (ad (j k)) else none) ∧ ∀ k, k < c → (¬ X (j k) ∧ ∀ f, f < F → ¬ X (q k f)) ∧ MT g n ad E (j k) (q k) F S (A k)
theorem KL.tr {X X' : Nat → Prop} {i c : Nat} {A : Nat → Nat → Nat → Int32} (K : KL g n ad E X i c F S A) (hn : n ≤ n') (ha : ∀ i, i < n → ad' i = ad i) (hE : ∀ k, k < n → ¬ X k → E' k = E k) (hX : ∀ k, k < n → ¬ X k → ¬ X' k) : KL g n' ad' E' X' i c F S A := by
  obtain ⟨⟨h1, h2⟩, j, q, h3, h4⟩ := K
  refine ⟨⟨by omega, hX _ h1 h2⟩, j, q, ?_, fun k hk => ?_⟩
  · rw [hE _ h1 h2, h3]
    exact aP_cg (refs_cg (fun k hk => ha _ (h4 k hk).2.1.1))
  · obtain ⟨⟨x1, x2⟩, M⟩ := h4 k hk
    refine ⟨⟨hX _ M.1.1 x1, fun f hf => hX _ (M.1.2 f hf) (x2 f hf)⟩, M.tr hn ha (fun z hz => ?_)⟩
    rcases hz with rfl | ⟨f, hf, rfl⟩
    · exact hE _ M.1.1 x1
    · exact hE _ (M.1.2 f hf) (x2 f hf)
theorem KL.cg {X : Nat → Prop} {i c : Nat} {A A' : Nat → Nat → Nat → Int32} (K : KL g n ad E X i c F S A) (h : ∀ k, k < c → A k = A' k) : KL g n ad E X i c F S A' := by
  obtain ⟨h1, j, q, h3, h4⟩ := K
  exact ⟨h1, j, q, h3, fun k hk => ⟨(h4 k hk).1, (h k hk) ▸ (h4 k hk).2⟩⟩
/-- what the Sim writes to -/
def Mu (w iL iE F : Nat) (r : Nat → Nat) (k : Nat) : Prop := k = w ∨ k = iL ∨ k = iE ∨ ∃ f, f < F ∧ k = r f
/-- the law's Sim, at the place 63, whole -/
def SR (g : jG) (n : Nat) (ad : Nat → Nat) (E : Nat → va_E) (F S : Nat) (sun hrs : Int32) (gone : Int64) (m : Nat → Nat → Int32) (e : Nat → Int32) (c : Nat) (A : Nat → Nat → Nat → Int32) (mc : Nat) (B : Nat → Nat → Nat → Int32) : Prop :=
  ∃ (iL iE : Nat) (r : Nat → Nat) (ia im : Nat), SV g n ad E 63 iL iE r F S sun hrs gone m e (.ref (ad ia)) (.ref (ad im)) ∧ (63 ≤ iL ∧ 63 ≤ iE ∧ ∀ f, f < F → 63 ≤ r f) ∧ KL g n ad E (fun k => Mu 63 iL iE F r k ∨ k < 63) ia c F S A ∧ KL g n ad E (fun k => Mu 63 iL iE F r k ∨ k < 63) im mc F S B
end SVL
