/-! The small machine: ints and longs are whole numbers in their range, cells are numbered from 1 on, a heap is three tables (ints, longs, references; 0 is null). -/
/-- the tables' words that hold at every later state of the tables -/
def zgw : List Cond := lw_tbl.filter goodWord
theorem zgw_of {w : Cond} (i : Nat) (h : lw_tbl[i]? = some w) (hg : goodWord w = true) : w ∈ zgw := List.mem_filter.mpr ⟨List.mem_of_getElem? h, hg⟩
theorem zgw_good : GoodIn zgw zgw := fun w hw => ⟨hw, good_of_word (List.mem_filter.mp hw).2⟩
abbrev zHp : Type := (Nat → Nat → Int) × (Nat → Nat → Int) × (Nat → Nat → Nat)
abbrev zG : Type := Launch × Nat × va_G × (Nat → ClassId)
abbrev zM : Type := MethodName × ByteArray × Nat × Option FieldType
abbrev zV : Type := Int ⊕ Int ⊕ Nat
abbrev vI (z : Int) : zV := .inl z
abbrev vL (z : Int) : zV := .inr (.inl z)
abbrev vR (a : Nat) : zV := .inr (.inr a)
def zII (z : Int) : Prop := -2147483648 ≤ z ∧ z ≤ 2147483647
def zIL (z : Int) : Prop := -9223372036854775808 ≤ z ∧ z ≤ 9223372036854775807
def zv (B : Nat) : zV → Value
  | .inl z => .int (Int32.ofInt z)
  | .inr (.inl z) => .long (Int64.ofInt z)
  | .inr (.inr a) => .ref (B + a)
def zok : zV → Prop
  | .inl z => zII z
  | .inr (.inl z) => zIL z
  | .inr (.inr _) => True
def zcat : zV → Nat
  | .inr (.inl _) => 2
  | _ => 1
theorem zcat_v (B : Nat) (v : zV) : (zv B v).category = zcat v := by
  rcases v with z | z | a <;> rfl
def zrO (B r : Nat) : Option Nat := if r = 0 then none else some (B + r)
def zfv (B : Nat) (h : zHp) (a : Nat) (t : FieldType) (j : Nat) : Value := match t with
  | .long => .long (Int64.ofInt (h.2.1 a j))
  | .object _ => va_rf (zrO B (h.2.2 a j))
  | .array _ => va_rf (zrO B (h.2.2 a j))
  | _ => .int (Int32.ofInt (h.1 a j))
def zfl (B : Nat) (h : zHp) (a c : Nat) : List Value := (List.range (zN c)).map (fun j => zfv B h a (zty c j) j)
def zent (G : zG) (h : zHp) (a : Nat) (t : Nat × Nat) : va_E :=
  if t.1 = 0 then .inl (G.2.2.2 0, t.2, .inl (fun j => Int32.ofInt (h.1 a j)))
  else if t.1 = 1 then .inl (G.2.2.2 1, t.2, .inr (.inl (fun j => Int64.ofInt (h.2.1 a j))))
  else if t.1 < 100 then .inl (G.2.2.2 t.1, t.2, .inr (.inr (.inr (.inr (fun j => zrO G.2.1 (h.2.2 a j))))))
  else .inr (t.1 - 100, zfl G.2.1 h a (t.1 - 100))
def zl (G : zG) (n : Nat) (h : zHp) : va_W := (List.range n).map (fun k => (G.2.1 + (k + 1), zent G h (k + 1) (zTAU (k + 1))))
def zT (n a : Nat) : Nat × Nat := if 1 ≤ a ∧ a ≤ n then zTAU a else (99, 0)
def zSL : Nat → Nat
  | 0 => 0
  | n + 1 => zSL n + (zTAU (n + 1)).2
theorem zSL_le {a b : Nat} (h : a ≤ b) : zSL a ≤ zSL b := by
  induction b with
  | zero => rw [show a = 0 by omega]; exact Nat.le_refl _
  | succ b ih =>
    by_cases e : a = b + 1
    · subst e; exact Nat.le_refl _
    · exact Nat.le_trans (ih (by omega)) (Nat.le_add_right _ _)
theorem zT_in {n a c : Nat} (h : (zT n a).1 = c) (hc : c ≠ 99) : 1 ≤ a ∧ a ≤ n ∧ zT n a = zTAU a := by
  unfold zT at h ⊢
  split at h
  · rename_i q; exact ⟨q.1, q.2, by rw [if_pos q]⟩
  · exact absurd h.symm hc
theorem zl_get {G : zG} {n a : Nat} {h : zHp} (h1 : 1 ≤ a) (h2 : a ≤ n) : (zl G n h)[a - 1]? = some (G.2.1 + a, zent G h a (zTAU a)) := by
  obtain ⟨k, rfl⟩ : ∃ k, a = k + 1 := ⟨a - 1, by omega⟩
  rw [zl, List.getElem?_map, List.getElem?_range (by omega)]
  rfl
theorem zl_lt {G : zG} {n k : Nat} {h : zHp} {q : Nat × va_E} (hq : (zl G n h)[k]? = some q) : k < n ∧ q = (G.2.1 + (k + 1), zent G h (k + 1) (zTAU (k + 1))) := by
  rw [zl, List.getElem?_map] at hq
  by_cases hk : k < n
  · rw [List.getElem?_range hk] at hq
    exact ⟨hk, (Option.some.inj hq).symm⟩
  · rw [List.getElem?_eq_none (by simp; omega)] at hq
    cases hq
def zA (G : zG) : Nat → Prop := fun q => G.2.1 < q
theorem zD (G : zG) (n : Nat) (h : zHp) : va_D (zA G) (zl G n h) := by
  refine ⟨fun i j p q hp hq e => ?_, fun k q hq => ?_⟩
  · obtain ⟨-, rfl⟩ := zl_lt hp
    obtain ⟨-, rfl⟩ := zl_lt hq
    simp only at e
    omega
  · obtain ⟨-, rfl⟩ := zl_lt hq
    show G.2.1 < G.2.1 + (k + 1)
    omega
theorem zl_set {G : zG} {n a : Nat} {h h' : zHp} (h1 : 1 ≤ a) (h2 : a ≤ n) (ho : ∀ b, b ≠ a → zent G h' b (zTAU b) = zent G h b (zTAU b)) :
    (zl G n h).set (a - 1) (G.2.1 + a, zent G h' a (zTAU a)) = zl G n h' := by
  apply List.ext_getElem?
  intro k
  obtain ⟨j, rfl⟩ : ∃ j, a = j + 1 := ⟨a - 1, by omega⟩
  rw [List.getElem?_set]
  by_cases hk : j + 1 - 1 = k
  · rw [if_pos hk]
    have hk' : k = j := by omega
    subst hk'
    have hl : (zl G n h).length = n := by simp [zl]
    rw [if_pos (by rw [hl]; omega)]
    exact (zl_get (a := k + 1) (by omega) h2).symm
  · rw [if_neg hk]
    by_cases hn : k < n
    · have e1 := zl_get (G := G) (n := n) (h := h) (a := k + 1) (by omega) (by omega)
      have e2 := zl_get (G := G) (n := n) (h := h') (a := k + 1) (by omega) (by omega)
      rw [show k + 1 - 1 = k by omega] at e1 e2
      rw [e1, e2, ho (k + 1) (by omega)]
    · rw [List.getElem?_eq_none (by simp [zl]; omega), List.getElem?_eq_none (by simp [zl]; omega)]
theorem zl_push {G : zG} {n : Nat} {h : zHp} : zl G (n + 1) h = zl G n h ++ [(G.2.1 + (n + 1), zent G h (n + 1) (zTAU (n + 1)))] := by
  simp [zl, List.range_succ]
def zZ (n : Nat) (h : zHp) : Prop := ∀ a, n < a → ∀ i, h.1 a i = 0 ∧ h.2.1 a i = 0 ∧ h.2.2 a i = 0
def zRg (h : zHp) : Prop := ∀ a i, zII (h.1 a i) ∧ zIL (h.2.1 a i)
def ztys (G : zG) : List (ClassId × FieldType) := [(G.2.2.2 0, .int), (G.2.2.2 1, .long), (G.2.2.2 2, .object RX2), (G.2.2.2 3, .object RX8), (G.2.2.2 4, .object RX5), (G.2.2.2 5, .object RX3)]
def zHe (G : zG) (n : Nat) (h : zHp) (H : Heap) : Prop := va_P G.2.2.1 zcl (zl G n h) H ∧ H.size = G.2.1 + n + 1 ∧ zZ n h ∧ zRg h
def zH (G : zG) (n0 n : Nat) (h : zHp) (s : State) (H : Heap) (locs : List Loc) : Prop := zHe G n h H ∧ va_S (zA G) s.heap H locs ∧ s.heap.size = G.2.1 + n0 + 1
/-- what the tables say of the classes, of arrays of references, and of the private constructor that a nest mate calls -/
def zKx (G : zG) (s : State) : Prop := va_K G.2.2.1 zcl (ztys G) s ∧ (va_AO RX2 s ∧ va_AO RX8 s ∧ va_AO RX5 s ∧ va_AO RX3 s) ∧ va_Nw (.methodLinkNest RX8 15 yX5_init RX10) s
def zX (G : zG) (X : Array Value → State → Prop) (M : zM) (p : Program) (s : State) (m : MethodId) (args : Array Value) (meth : Method) (c : Code) : Prop :=
  p.tables.exec = Jvm.exec ∧ c.code = M.2.1 ∧ meth.sig.returnType = M.2.2.2 ∧ meth.locks = false ∧ c.maxLocals = M.2.2.1 ∧ s.vm.findClass M.1.cls = some m.cls ∧ (∀ w ∈ zgw, w.before args s = true) ∧ meth.name = M.1.name ∧ zKx G s ∧ X args s
abbrev zLs : Type := List (Nat × zV)
def zlm (B : Nat) (ls : zLs) : List (Nat × Value) := ls.map (fun q => (q.1, zv B q.2))
/-- the machine at an instruction of method M: from every real state that holds this picture it comes to an end that Z allows -/
def wq (G : zG) (R : Room) (Z : List Frame → Array Value → State → State → Prop) (X : Array Value → State → Prop) (M : zM) (n0 n pc : Nat) (ls : zLs) (st : List zV) (h : zHp) : Prop :=
  ∀ (p : Program) (e : Env) (s : State) (m : MethodId) (args : Array Value) (below : List Frame) (meth : Method) (c : Code) (H : Heap) (locs : List Loc) (lr : Array Slot),
    zX G X M p s m args meth c → zH G n0 n h s H locs → lv_has lr M.2.2.1 (zlm G.2.1 ls) → n0 ≤ n → (∀ q ∈ ls, zok q.2) → (∀ v ∈ st, zok v) →
    W p G.1 e R s m args below meth c H locs (n - n0) (zSL n - zSL n0) (Z below args s) (F0 m pc lr (st.map (zv G.2.1)))
def zRm (d n0 nE : Nat) : Room := { frames := d, cells := nE - n0, slots := zSL nE - zSL n0, locals := 100 * d }
def zQc (G : zG) (nE : Nat) (Q : Option zV → zHp → Prop) : Array Value → State → Outcome → State → Prop := fun _ st o t =>
  ∃ (v : Option zV) (h' : zHp), o = .returned (v.map (zv G.2.1)) ∧ Q v h' ∧ (∀ x ∈ v.toList, zok x) ∧ zHe G nE h' t.heap ∧ va_F (zA G) st t
def zFin (G : zG) (n0 nE : Nat) (Q : Option zV → zHp → Prop) : List Frame → Array Value → State → State → Prop := fun below args s =>
  MQ below (zQc G nE Q) args s (nE - n0) (zSL nE - zSL n0) (zA G)
abbrev wp (G : zG) (d n0 nE : Nat) (M : zM) (n pc : Nat) (ls : zLs) (st : List zV) (h : zHp) (Q : Option zV → zHp → Prop) : Prop :=
  wq G (zRm d n0 nE) (zFin G n0 nE Q) (fun _ _ => True) M n0 n pc ls st h
/-- a class's words are in the tables, and its types -/
def zCl (c : Nat) (C : String) (T : u_T) : Prop := zcl[c]? = some (C, T, zN c) ∧ (∀ w ∈ u_ws C T (zN c), w ∈ zgw) ∧ (∀ k, k < zN c → parseFieldDescriptor (T k).2.2.1 = some (zty c k)) ∧ (∀ a, a < zN c → ∀ b, b < zN c → a ≠ b → (T a).2.1 ≠ (T b).2.1)
/-- a field's entry of a class's constants -/
def zFd (own : String) (idx c j : Nat) (C : String) (T : u_T) : Prop := zCl c C T ∧ j < zN c ∧ Cond.fieldLink own idx (T j).1 (T j).2.1 (T j).2.2.1 ∈ zgw
/-- what a method's own words say -/
def zMd (M' : zM) (k : Nat) : Prop := plainFor M'.1 = true ∧ Cond.code M'.1 M'.2.1 M'.2.2.1 M'.2.2.2 ∈ zgw ∧ Cond.initialized M'.1.cls ∈ zgw ∧ (M'.1.cls ≠ "java/lang/invoke/MethodHandle" ∧ M'.1.cls ≠ "java/lang/invoke/VarHandle") ∧ (parseMethodDescriptor M'.1.desc).map (fun d => d.parameters.length) = some k ∧ M'.2.2.1 ≤ 80
/-- the types that a class's fields have -/
def zTyb : FieldType → Bool
  | .int | .boolean | .long | .object _ | .array _ => true
  | _ => false
