/-! A layer of my own over the kit: one judgement J for 'from this configuration of method M, the method ends as Φ (returned) or Ψ (threw) say'. The world is a table of entries E over addresses ad, n of them; contexts, heaps, rooms are inside J. -/
/-- the law's numbers: first address of the world, the script's cell, length, contents; the class ids; the three array classes (int, int[][], int[]); where the texts lie -/
abbrev jG : Type := (Nat × Nat × Nat × (Nat → Int32)) × va_G × (ClassId × ClassId × ClassId) × (Nat → Nat)
abbrev jM : Type := MethodName × ByteArray × Nat × Option FieldType × List (Nat × Nat × Nat × Nat)
abbrev jR : Type := Nat → (Nat → Nat) → (Nat → va_E) → Prop
def jA (g : jG) : Nat → Prop := fun q => g.1.1 ≤ q
def jT (g : jG) : List (ClassId × FieldType) := [(g.2.2.1.1, .int), (g.2.2.1.2.1, .array (.array .int)), (g.2.2.1.2.2, .array .int)]
def TT : List Cond := lw_tbl.filter goodWord
def jNw : Cond → Bool
  | .fieldLinkNest .. => true
  | .methodLinkNest .. => true
  | .castable .. => true
  | .declares .. => true
  | _ => false
def NW : List Cond := lw_tbl.filter jNw
theorem tt_of {w : Cond} (k : Nat) (h : lw_tbl[k]? = some w) (hg : goodWord w = true) : w ∈ TT := List.mem_filter.mpr ⟨List.mem_of_getElem? h, hg⟩
theorem nw_of {w : Cond} (k : Nat) (h : lw_tbl[k]? = some w) (hg : jNw w = true) : w ∈ NW := List.mem_filter.mpr ⟨List.mem_of_getElem? h, hg⟩
theorem tt_good {w : Cond} (h : w ∈ TT) : goodWord w = true := (List.mem_filter.mp h).2
def jCode (M : jM) : Cond := if M.2.2.2.2.isEmpty = true then .code M.1 M.2.1 M.2.2.1 M.2.2.2.1 else .codeWith M.1 M.2.1 M.2.2.1 M.2.2.2.1 M.2.2.2.2
def jW (M : jM) : List Cond := jCode M :: TT
/-! the world -/
def jws (n : Nat) (ad : Nat → Nat) (E : Nat → va_E) : va_W := (List.range n).map (fun k => (ad k, E k))
theorem jws_at {n : Nat} {ad : Nat → Nat} {E : Nat → va_E} {k : Nat} (h : k < n) : (jws n ad E)[k]? = some (ad k, E k) := by
  simp [jws, h]
theorem jws_set {n : Nat} {ad : Nat → Nat} {E : Nat → va_E} {k : Nat} {e : va_E} (h : k < n) : (jws n ad E).set k (ad k, e) = jws n ad (va_up E k e) := by
  apply List.ext_getElem?
  intro j
  by_cases hj : j < n
  · rw [jws_at hj, List.getElem?_set]
    by_cases hk : k = j
    · subst hk
      simp [jws, h, va_up]
    · rw [if_neg hk, jws_at hj]
      simp [va_up, Ne.symm hk]
  · rw [List.getElem?_eq_none (by simp [jws]; omega), List.getElem?_eq_none (by simp [jws]; omega)]
theorem jws_push {n : Nat} {ad : Nat → Nat} {E : Nat → va_E} {q : Nat} {e : va_E} : jws n ad E ++ [(q, e)] = jws (n + 1) (va_up ad n q) (va_up E n e) := by
  unfold jws
  rw [List.range_succ, List.map_append]
  congr 1
  · apply List.map_congr_left
    intro k hk
    have : k ≠ n := Nat.ne_of_lt (List.mem_range.mp hk)
    simp [va_up, this]
  · simp [va_up]
def jWd (g : jG) (n : Nat) (ad : Nat → Nat) (E : Nat → va_E) (H : Heap) : Prop := va_P g.2.1 vwCl (jws n ad E) H ∧ va_D (jA g) (jws n ad E)
theorem jWd.less {g : jG} {n k : Nat} {ad : Nat → Nat} {E : Nat → va_E} {H : Heap} (h : jWd g n ad E H) (hk : k ≤ n) : jWd g k ad E H := by
  have key : ∀ (i : Nat) (q : Nat × va_E), (jws k ad E)[i]? = some q → (jws n ad E)[i]? = some q := by
    intro i q hi
    have hl : i < k := by
      have := (List.getElem?_eq_some_iff.mp hi).1
      simpa [jws] using this
    rw [jws_at hl] at hi
    rw [jws_at (by omega), hi]
  exact ⟨fun i q hi => h.1 i q (key i q hi), fun i j p q hi hj e => h.2.1 i j p q (key i p hi) (key j q hj) e, fun i q hi => h.2.2 i q (key i q hi)⟩
theorem jWd.inj {g : jG} {n : Nat} {ad : Nat → Nat} {E : Nat → va_E} {H : Heap} (h : jWd g n ad E H) {i j : Nat} (hi : i < n) (hj : j < n) (e : ad i = ad j) : i = j := h.2.1 i j _ _ (jws_at hi) (jws_at hj) e
theorem jWd.lt {g : jG} {n : Nat} {ad : Nat → Nat} {E : Nat → va_E} {H : Heap} (h : jWd g n ad E H) {i : Nat} (hi : i < n) : ad i < H.size := (h.1 i _ (jws_at hi)).lt
/-- only the first n entries count -/
theorem jWd.congr {g : jG} {n : Nat} {ad ad' : Nat → Nat} {E E' : Nat → va_E} {H : Heap} (h : jWd g n ad E H) (ha : ∀ k, k < n → ad k = ad' k) (hE : ∀ k, k < n → E k = E' k) : jWd g n ad' E' H := by
  have e : jws n ad E = jws n ad' E' := by
    unfold jws
    apply List.map_congr_left
    intro k hk
    have := List.mem_range.mp hk
    rw [ha k this, hE k this]
  unfold jWd at h ⊢
  rw [← e]
  exact h
/-! what of the start goes on to hold -/
def jStr : List (Nat × String) := [(121, "there are 12 marks"), (136, "no deed is kept"), (174, "there are not so many dry puddles"), (290, "there is no such number"), (294, "the number is too small or too great"), (297, "the first one is greater than the last one")]
def jNc : List (String × String) := []
def jK (g : jG) (s : State) : Prop :=
  va_K g.2.1 vwCl (jT g) s ∧ (∀ q ∈ jStr, vk_R RX3 q.1 q.2 (g.2.2.2 q.1) s) ∧ vx_Zq Bundle.tN "UNASSIGNED_STACK" Bundle.steD (jA g) s s.heap ∧ vx_Zq Bundle.tN "SUPPRESSED_SENTINEL" Bundle.listD (jA g) s s.heap ∧
  va_X g.1.2.1 g.1.2.2.1 g.1.2.2.2 s s.heap ∧ g.1.2.1 < g.1.1 ∧ g.1.1 ≤ s.heap.size ∧ (va_AOA .int s ∧ va_AOA (.array .int) s) ∧ (∀ w ∈ NW, va_Nw w s) ∧ ∀ q ∈ jNc, va_Nc q.1 q.2 s
theorem jNw_warm {s U : State} (hW : s.WarmedH U.vm) {w : Cond} (hw : jNw w = true) (h : va_Nw w s) : va_Nw w U := by
  cases w <;> first | exact va_Nw.warmF hW h | exact va_Nw.warmM hW h | exact va_Nw.warmC hW h | exact va_Nw.warmD hW h | exact absurd (show false = true from hw) Bool.false_ne_true
theorem jNw_tab {w : Cond} (hw : jNw w = true) : w.onTables = true := by
  cases w <;> first | rfl | exact absurd (show false = true from hw) Bool.false_ne_true
theorem va_AOA.moved' {t : FieldType} {u U : State} (hvm : u.vm.Alike U.vm) (h : va_AOA t u) : va_AOA t U := over_moved (a := #[]) (a' := #[]) hvm h
theorem jK.to {g : jG} {s U : State} {H : Heap} {locs : List Loc} (h : jK g s) (hS : va_S (jA g) s.heap H locs) (hU : U.heap = H) (hW : s.WarmedH U.vm) : jK g U := by
  obtain ⟨h1, h2, h3, h4, h5, h6, h7, h8, h9, h10⟩ := h
  subst hU
  refine ⟨va_K.moved hW.alike h1, fun q hq => vk_R.warm hW (h2 q hq), (vx_Zq.moved hW.alike h3).kept (fun a ha hn => hS.2.1 a ha hn), (vx_Zq.moved hW.alike h4).kept (fun a ha hn => hS.2.1 a ha hn), ?_, h6, Nat.le_trans h7 hS.1, ⟨va_AOA.moved' hW.alike h8.1, va_AOA.moved' hW.alike h8.2⟩, fun w hw => jNw_warm hW (List.mem_filter.mp hw).2 (h9 w hw), fun q hq => va_Nc.moved hW.alike (h10 q hq)⟩
  exact (va_X.moved hW.alike h5).kept (hS.2.1 _ (Nat.lt_of_lt_of_le h6 h7) (Nat.not_le.mpr h6))
theorem jK.same {g : jG} {u U : State} (hv : U.vm = u.vm) (hh : U.heap = u.heap) (h : jK g u) : jK g U := by
  obtain ⟨h1, h2, h3, h4, h5, h6, h7, h8, h9, h10⟩ := h
  have ha : u.vm.Alike U.vm := by rw [hv]; exact Vm.Alike.refl _
  refine ⟨va_K.moved ha h1, fun q hq => vk_R.same hv (h2 q hq), by rw [hh]; exact vx_Zq.moved ha h3, by rw [hh]; exact vx_Zq.moved ha h4, by rw [hh]; exact va_X.moved ha h5, h6, by rw [hh]; exact h7, ⟨va_AOA.moved' ha h8.1, va_AOA.moved' ha h8.2⟩, fun w hw => va_Nw.same (jNw_tab (List.mem_filter.mp hw).2) hv.symm (h9 w hw), fun q hq => va_Nc.moved ha (h10 q hq)⟩
/-! locals by place -/
def slotV : Slot → Option Value
  | .val v => some v
  | _ => none
def lh (ls : Array Slot) (nL : Nat) (L : List (Option Value)) : Prop := ls.size = nL ∧ lv_wf ls ∧ ∀ (i : Nat) (v : Value), L[i]? = some (some v) → ls[i]? = some (.val v)
def ent (vs : List Value) (n : Nat) : List (Option Value) := (lg_sl vs ++ List.replicate (n - (lg_sl vs).length) Slot.unset).map slotV
theorem lh_at {ls : Array Slot} {nL : Nat} {L : List (Option Value)} (h : lh ls nL L) {i : Nat} {v : Value} (hi : L[i]? = some (some v)) : ls[i]? = some (.val v) := h.2.2 i v hi
theorem lh_entry (vs : List Value) {n : Nat} (h : (lg_sl vs).length ≤ n) : lh ((lg_sl vs ++ List.replicate (n - (lg_sl vs).length) Slot.unset).toArray) n (ent vs n) := by
  obtain ⟨h1, h2, -⟩ := lv_entry vs h
  refine ⟨h1, h2, fun i v hi => ?_⟩
  unfold ent at hi
  rw [List.getElem?_map] at hi
  cases hx : (lg_sl vs ++ List.replicate (n - (lg_sl vs).length) Slot.unset)[i]? with
  | none => rw [hx] at hi; cases hi
  | some x =>
    rw [hx] at hi
    cases x with
    | val w =>
      have e : w = v := by simpa [slotV] using hi
      subst e
      simpa using hx
    | unset => simp [slotV] at hi
    | second => simp [slotV] at hi
def asl (L : List (Option Value)) : List (Nat × Value) := (List.range L.length).filterMap (fun j => (L[j]?.getD none).map (fun w => (j, w)))
theorem asl_mem {L : List (Option Value)} {j : Nat} {w : Value} : (j, w) ∈ asl L ↔ L[j]? = some (some w) := by
  unfold asl
  rw [List.mem_filterMap]
  constructor
  · rintro ⟨k, hk, h⟩
    have hk := List.mem_range.mp hk
    rw [List.getElem?_eq_getElem hk] at h
    cases hx : L[k] with
    | none => rw [hx] at h; simp at h
    | some x =>
      rw [hx] at h
      simp at h
      obtain ⟨rfl, rfl⟩ := h
      rw [List.getElem?_eq_getElem hk, hx]
  · intro h
    have hk := (List.getElem?_eq_some_iff.mp h).1
    refine ⟨j, List.mem_range.mpr hk, ?_⟩
    rw [h]
    rfl
theorem lh_asl {ls : Array Slot} {nL : Nat} {L : List (Option Value)} (h : lh ls nL L) : lv_has ls nL (asl L) := ⟨h.1, h.2.1, fun q hq => h.2.2 q.1 q.2 (asl_mem.mp hq)⟩
/-- what stands just ahead of the place is no long -/
def okp (L : List (Option Value)) (i : Nat) : Bool := match i with
  | 0 => true
  | k + 1 => match L[k]? with
    | some (some w) => !(w.category == 2)
    | _ => true
theorem lh_of1 {ls' : Array Slot} {nL i : Nat} {L : List (Option Value)} {v : Value} (ok : okp L i = true) (h : lv_has ls' nL ((i, v) :: (asl L).filter (fun q => !(q.1 == i) && !(q.1 + 1 == i && q.2.category == 2)))) : lh ls' nL (L.set i (some v)) := by
  refine ⟨h.1, h.2.1, fun j w hj => ?_⟩
  rw [List.getElem?_set] at hj
  by_cases hij : i = j
  · rw [if_pos hij] at hj
    split at hj
    · cases hj
      exact hij ▸ h.2.2 (i, v) List.mem_cons_self
    · cases hj
  · rw [if_neg hij] at hj
    refine h.2.2 (j, w) (List.mem_cons_of_mem _ (List.mem_filter.mpr ⟨asl_mem.mpr hj, ?_⟩))
    by_cases e : j + 1 = i
    · subst e
      simp only [okp, hj] at ok
      simp at ok
      simp [ok]
    · simp [Ne.symm hij, e]
theorem lh_of2 {ls' : Array Slot} {nL i : Nat} {L : List (Option Value)} {v : Value} (ok : okp L i = true) (h : lv_has ls' nL ((i, v) :: (asl L).filter (fun q => !(q.1 == i) && (!(q.1 == i + 1) && !(q.1 + 1 == i && q.2.category == 2))))) : lh ls' nL ((L.set i (some v)).set (i + 1) none) := by
  refine ⟨h.1, h.2.1, fun j w hj => ?_⟩
  rw [List.getElem?_set] at hj
  by_cases h1 : i + 1 = j
  · rw [if_pos h1] at hj
    split at hj <;> cases hj
  · rw [if_neg h1, List.getElem?_set] at hj
    by_cases hij : i = j
    · rw [if_pos hij] at hj
      split at hj
      · cases hj
        exact hij ▸ h.2.2 (i, v) List.mem_cons_self
      · cases hj
    · rw [if_neg hij] at hj
      refine h.2.2 (j, w) (List.mem_cons_of_mem _ (List.mem_filter.mpr ⟨asl_mem.mpr hj, ?_⟩))
      by_cases e : j + 1 = i
      · subst e
        simp only [okp, hj] at ok
        simp at ok
        simp [ok]
        omega
      · simp [Ne.symm hij, e, Ne.symm h1]
theorem lh_sub {ls : Array Slot} {nL : Nat} {L L' : List (Option Value)} (h : lh ls nL L) (hs : ∀ (i : Nat) (v : Value), L'[i]? = some (some v) → L[i]? = some (some v)) : lh ls nL L' := ⟨h.1, h.2.1, fun i v hi => h.2.2 i v (hs i v hi)⟩
/-! the judgement -/
def jQ (g : jG) (Φ : Option Value → jR) : Array Value → State → Outcome → State → Prop := fun _ st o t => (∃ (v : Option Value) (n : Nat) (ad : Nat → Nat) (E : Nat → va_E), o = .returned v ∧ Φ v n ad E ∧ jWd g n ad E t.heap) ∧ va_F (jA g) st t
def jX (g : jG) (Ψ : String → jR) : String → State → State → Prop := fun X st t => (∃ (n : Nat) (ad : Nat → Nat) (E : Nat → va_E), Ψ X n ad E ∧ jWd g n ad E t.heap) ∧ va_F (jA g) st t
/-- the mark of the law itself, of whose table and name nothing is given (and nothing needed) -/
abbrev jMk : List (Nat × Nat × Nat × Nat) := [(0, 0, 0, 0)]
def jC (g : jG) (M : jM) (d : Nat) (l : Launch) (p : Program) (R : Room) (s : State) (m : MethodId) (args : Array Value) (meth : Method) (c : Code) : Prop :=
  p.tables.exec = Jvm.exec ∧ c.code = M.2.1 ∧ c.maxLocals = M.2.2.1 ∧ meth.sig.returnType = M.2.2.2.1 ∧ meth.locks = false ∧ s.vm.findClass M.1.cls = some m.cls ∧ (∀ w ∈ TT, w.before args s = true) ∧ (M.2.2.2.2 = jMk ∨ c.exceptionTable.toList = tableOf M.2.2.2.2) ∧ ((M.2.2.2.2 = jMk ∧ M.1.name = "law") ∨ meth.name = M.1.name) ∧ l.stackTraces = false ∧ d ≤ R.frames ∧ 32 * d ≤ R.locals ∧ jK g s
def J (g : jG) (M : jM) (d bc bs pc : Nat) (L : List (Option Value)) (st : List Value) (n : Nat) (ad : Nat → Nat) (E : Nat → va_E) (Φ : Option Value → jR) (Ψ : String → jR) : Prop :=
  ∀ (l : Launch) (p : Program) (e : Env) (R : Room) (s : State) (m : MethodId) (args : Array Value) (below : List Frame) (meth : Method) (c : Code) (H : Heap) (locs : List Loc) (cells slots : Nat) (ls : Array Slot),
    jC g M d l p R s m args meth c → cells + bc ≤ R.cells → slots + bs ≤ R.slots → jWd g n ad E H → va_S (jA g) s.heap H locs → lh ls M.2.2.1 L →
    W p l e R s m args below meth c H locs cells slots (vx_MQ below (jQ g Φ) (jX g Ψ) args s R.cells R.slots (jA g)) (F0 m pc ls st)
def JE (g : jG) (M : jM) (d bc bs : Nat) (As : List Value) (n : Nat) (ad : Nat → Nat) (E : Nat → va_E) (Φ : Option Value → jR) (Ψ : String → jR) : Prop := J g M d bc bs 0 (ent As M.2.2.1) [] n ad E Φ Ψ
def jPre (g : jG) (n : Nat) (ad : Nat → Nat) (E : Nat → va_E) : State → Prop := fun U => jK g U ∧ jWd g n ad E U.heap
theorem jPre.blind {g : jG} {n : Nat} {ad : Nat → Nat} {E : Nat → va_E} {As : List Value} : FrameBlind (va_Pc As (jPre g n ad E)) := fun _ U gf mk q => ⟨q.1, jK.same (u := U) (U := U.calling gf mk _) rfl rfl q.2.1, q.2.2⟩
theorem jW_good {M : jM} (h : jCode M ∈ TT) : ∀ w ∈ jW M, w ∈ TT ∧ ((w.onTables && w.keeps) = true ∨ ∃ ty, w = .arrayClass ty) := fun w hw => by
  have : w ∈ TT := (List.mem_cons.mp hw).elim (fun e => e ▸ h) id
  exact ⟨this, good_of_word (tt_good this)⟩
/-- a method from its entry -/
theorem jMet {g : jG} {M : jM} {d bc bs : Nat} {As : List Value} {n : Nat} {ad : Nat → Nat} {E : Nat → va_E} {Φ : Option Value → jR} {Ψ : String → jR} {l : Launch} (hy : plainName M.1.cls = true) (hl : l.stackTraces = false) (hn : (lg_sl As).length ≤ M.2.2.1) (h : JE g M d bc bs As n ad E Φ Ψ) :
    vx_Met l M.1 (jW M) ({ frames := d, cells := bc, slots := bs, locals := 32 * d }) (va_Pc As (jPre g n ad E)) (jQ g Φ) (jX g Ψ) bc bs (jA g) := by
  obtain ⟨y, cc, nL, ret, hh⟩ := M
  by_cases hhe : hh.isEmpty = true
  · have hh0 : hh = [] := List.isEmpty_iff.mp hhe
    subst hh0
    refine vx_ofW (cc := cc) (maxL := nL) (ret := ret) hy (ws' := TT) rfl ?_
    intro p e s m args below meth c s₁ B hml ht hv
    obtain ⟨rfl, hK, hWd⟩ := hv
    have hts := atoms_spec B.pre
    rw [lg_entry_eq]
    refine h l p e _ s m _ below meth c s.heap [] 0 0 _ ⟨B.exec, B.bytes, hml, B.returns, B.notSynchronized, findClass_of_methodNamed B.named, fun w hw => hts w (List.mem_cons_of_mem _ hw), Or.inr ?_, Or.inr (name_of_methodNamed B.named B.method).1, hl, Nat.le_refl _, Nat.le_refl _, hK⟩ (by show 0 + bc ≤ bc; omega) (by show 0 + bs ≤ bs; omega) hWd va_S.rf (lh_entry As hn)
    exact List.eq_nil_iff_forall_not_mem.mpr fun x hx => ht x hx
  · have hcd : jCode (y, cc, nL, ret, hh) = .codeWith y cc nL ret hh := if_neg hhe
    refine vx_ofWH (cc := cc) (maxL := nL) (ret := ret) (hh := hh) hy (ws' := TT) (by unfold jW; rw [hcd]) ?_
    intro p e s m args below meth c s₁ B hml hv
    obtain ⟨rfl, hK, hWd⟩ := hv
    have hts := atoms_spec B.pre
    rw [lg_entry_eq]
    exact h l p e _ s m _ below meth c s.heap [] 0 0 _ ⟨B.exec, B.bytes, hml, B.returns, B.notSynchronized, findClass_of_methodNamed B.named, fun w hw => hts w (List.mem_cons_of_mem _ hw), Or.inr (vx_table (x := y) B (by rw [← hcd]; exact hts _ List.mem_cons_self)), Or.inr (name_of_methodNamed B.named B.method).1, hl, Nat.le_refl _, Nat.le_refl _, hK⟩ (by show 0 + bc ≤ bc; omega) (by show 0 + bs ≤ bs; omega) hWd va_S.rf (lh_entry As hn)
