def gI (h : zHp) (a j : Nat) : Int := h.1 a j
def gL (h : zHp) (a j : Nat) : Int := h.2.1 a j
def gR (h : zHp) (a j : Nat) : Nat := h.2.2 a j
def sI (h : zHp) (a j : Nat) (z : Int) : zHp := (fun b k => if b = a ∧ k = j then z else h.1 b k, h.2.1, h.2.2)
def sL (h : zHp) (a j : Nat) (z : Int) : zHp := (h.1, fun b k => if b = a ∧ k = j then z else h.2.1 b k, h.2.2)
def sR (h : zHp) (a j : Nat) (r : Nat) : zHp := (h.1, h.2.1, fun b k => if b = a ∧ k = j then r else h.2.2 b k)
theorem gI_sI (h : zHp) (a j : Nat) (z : Int) (b k : Nat) : gI (sI h a j z) b k = if b = a ∧ k = j then z else gI h b k := rfl
theorem gL_sL (h : zHp) (a j : Nat) (z : Int) (b k : Nat) : gL (sL h a j z) b k = if b = a ∧ k = j then z else gL h b k := rfl
theorem gR_sR (h : zHp) (a j : Nat) (r b k : Nat) : gR (sR h a j r) b k = if b = a ∧ k = j then r else gR h b k := rfl
theorem gI_sL (h : zHp) (a j : Nat) (z : Int) (b k : Nat) : gI (sL h a j z) b k = gI h b k := rfl
theorem gI_sR (h : zHp) (a j r b k : Nat) : gI (sR h a j r) b k = gI h b k := rfl
theorem gL_sI (h : zHp) (a j : Nat) (z : Int) (b k : Nat) : gL (sI h a j z) b k = gL h b k := rfl
theorem gL_sR (h : zHp) (a j r b k : Nat) : gL (sR h a j r) b k = gL h b k := rfl
theorem gR_sI (h : zHp) (a j : Nat) (z : Int) (b k : Nat) : gR (sI h a j z) b k = gR h b k := rfl
theorem gR_sL (h : zHp) (a j : Nat) (z : Int) (b k : Nat) : gR (sL h a j z) b k = gR h b k := rfl
theorem zRg_sI {h : zHp} (hr : zRg h) {a j : Nat} {z : Int} (hz : zII z) : zRg (sI h a j z) := by
  intro b k
  refine ⟨?_, (hr b k).2⟩
  show zII (if b = a ∧ k = j then z else h.1 b k)
  split
  · exact hz
  · exact (hr b k).1
theorem zRg_sL {h : zHp} (hr : zRg h) {a j : Nat} {z : Int} (hz : zIL z) : zRg (sL h a j z) := by
  intro b k
  refine ⟨(hr b k).1, ?_⟩
  show zIL (if b = a ∧ k = j then z else h.2.1 b k)
  split
  · exact hz
  · exact (hr b k).2
theorem zRg_sR {h : zHp} (hr : zRg h) {a j r : Nat} : zRg (sR h a j r) := hr
theorem sI_row {h : zHp} {a j b : Nat} {z : Int} (hb : b ≠ a) : (sI h a j z).1 b = h.1 b ∧ (sI h a j z).2.1 b = h.2.1 b ∧ (sI h a j z).2.2 b = h.2.2 b := by
  refine ⟨?_, rfl, rfl⟩
  funext k
  show (if b = a ∧ k = j then z else h.1 b k) = _
  rw [if_neg (fun q => hb q.1)]
theorem sL_row {h : zHp} {a j b : Nat} {z : Int} (hb : b ≠ a) : (sL h a j z).1 b = h.1 b ∧ (sL h a j z).2.1 b = h.2.1 b ∧ (sL h a j z).2.2 b = h.2.2 b := by
  refine ⟨rfl, ?_, rfl⟩
  funext k
  show (if b = a ∧ k = j then z else h.2.1 b k) = _
  rw [if_neg (fun q => hb q.1)]
theorem sR_row {h : zHp} {a j b r : Nat} (hb : b ≠ a) : (sR h a j r).1 b = h.1 b ∧ (sR h a j r).2.1 b = h.2.1 b ∧ (sR h a j r).2.2 b = h.2.2 b := by
  refine ⟨rfl, rfl, ?_⟩
  funext k
  show (if b = a ∧ k = j then r else h.2.2 b k) = _
  rw [if_neg (fun q => hb q.1)]
theorem zfv_row {B b j : Nat} {h h' : zHp} (hr : h'.1 b = h.1 b ∧ h'.2.1 b = h.2.1 b ∧ h'.2.2 b = h.2.2 b) (t : FieldType) : zfv B h' b t j = zfv B h b t j := by
  unfold zfv
  cases t <;> simp only [hr.1, hr.2.1, hr.2.2]
theorem zent_row {G : zG} {h h' : zHp} {b : Nat} (t : Nat × Nat) (hr : h'.1 b = h.1 b ∧ h'.2.1 b = h.2.1 b ∧ h'.2.2 b = h.2.2 b) : zent G h' b t = zent G h b t := by
  unfold zent
  rw [hr.1, hr.2.1, hr.2.2]
  have e : ∀ c, zfl G.2.1 h' b c = zfl G.2.1 h b c := fun c => List.map_congr_left (fun j _ => zfv_row hr _)
  rw [e]
theorem zH_put {G : zG} {n0 n a k : Nat} {h h' : zHp} {s : State} {H H1 : Heap} {locs : List Loc} (hH : zH G n0 n h s H locs) (g1 : 1 ≤ a) (g2 : a ≤ n) (e1 : va_at G.2.2.1 zcl (G.2.1 + a, zent G h' a (zTAU a)) H1) (e2 : H1.size = H.size) (e3 : ∀ q : Nat, q ≠ G.2.1 + a → H1[q]? = H[q]?)
    (ho : ∀ b, b ≠ a → h'.1 b = h.1 b ∧ h'.2.1 b = h.2.1 b ∧ h'.2.2 b = h.2.2 b) (hr : zRg h')   : zH G n0 n h' s H1 (locs ++ [⟨G.2.1 + a, k⟩]) := by
  obtain ⟨⟨hP, hz, hZ, -⟩, hS, hB⟩ := hH
  refine ⟨⟨?_, e2.trans hz, ?_, hr⟩, hS.put e2 e3 (show G.2.1 < G.2.1 + a by omega), hB⟩
  · have q := va_P.set hP (zD G n h) (zl_get g1 g2) e1 e3
    rw [zl_set g1 g2 (fun b hb => zent_row _ (ho b hb))] at q
    exact q
  · intro b hb i
    obtain ⟨q1, q2, q3⟩ := ho b (by omega)
    rw [q1, q2, q3]
    exact hZ b hb i
theorem zT_at {n a : Nat} {t : Nat × Nat} (ht : zT n a = t) (h9 : t.1 ≠ 99) : 1 ≤ a ∧ a ≤ n ∧ zTAU a = t := by
  obtain ⟨q1, q2, q3⟩ := zT_in (c := t.1) (by rw [ht]) h9
  exact ⟨q1, q2, by rw [← q3, ht]⟩
theorem zent_0 {G : zG} {h : zHp} {a k : Nat} : zent G h a (0, k) = .inl (G.2.2.2 0, k, .inl (fun j => Int32.ofInt (h.1 a j))) := by unfold zent; rw [if_pos rfl]
theorem zent_1 {G : zG} {h : zHp} {a k : Nat} : zent G h a (1, k) = .inl (G.2.2.2 1, k, .inr (.inl (fun j => Int64.ofInt (h.2.1 a j)))) := by
  unfold zent; simp only; rw [if_neg (by omega)]; rfl
theorem zent_a {G : zG} {h : zHp} {a t k : Nat} (h1 : 2 ≤ t) (h2 : t < 100) : zent G h a (t, k) = .inl (G.2.2.2 t, k, .inr (.inr (.inr (.inr (fun j => zrO G.2.1 (h.2.2 a j)))))) := by
  unfold zent
  simp only
  rw [if_neg (by omega), if_neg (by omega), if_pos h2]
theorem zent_o {G : zG} {h : zHp} {a c k : Nat} : zent G h a (100 + c, k) = .inr (c, zfl G.2.1 h a c) := by
  unfold zent
  simp only
  rw [if_neg (by omega), if_neg (by omega), if_neg (by omega), show 100 + c - 100 = c by omega]
theorem zfl_get {B : Nat} {h : zHp} {a c j : Nat} (hj : j < zN c) : (zfl B h a c)[j]? = some (zfv B h a (zty c j) j) := by
  rw [zfl, List.getElem?_map, List.getElem?_range hj]
  rfl
theorem zfl_set {B : Nat} {h h' : zHp} {a c j : Nat} (hj : j < zN c) (ho : ∀ k, k ≠ j → zfv B h' a (zty c k) k = zfv B h a (zty c k) k) : (zfl B h a c).set j (zfv B h' a (zty c j) j) = zfl B h' a c := by
  apply List.ext_getElem?
  intro k
  have hl : (zfl B h a c).length = zN c := by simp [zfl]
  rw [List.getElem?_set, hl]
  by_cases hk : j = k
  · subst hk
    rw [if_pos rfl, if_pos hj, zfl_get hj]
  · rw [if_neg hk]
    by_cases hn : k < zN c
    · rw [zfl_get hn, zfl_get hn, ho k (fun q => hk q.symm)]
    · rw [List.getElem?_eq_none (by simp [zfl]; omega), List.getElem?_eq_none (by simp [zfl]; omega)]
theorem sI_fv {B : Nat} {h : zHp} {a j k : Nat} {z : Int} (t : FieldType) (hk : k ≠ j) : zfv B (sI h a j z) a t k = zfv B h a t k := by
  have e : (sI h a j z).1 a k = h.1 a k := by
    show (if a = a ∧ k = j then z else h.1 a k) = _
    rw [if_neg (fun q => hk q.2)]
  unfold zfv
  cases t <;> simp only [e] <;> rfl
theorem sL_fv {B : Nat} {h : zHp} {a j k : Nat} {z : Int} (t : FieldType) (hk : k ≠ j) : zfv B (sL h a j z) a t k = zfv B h a t k := by
  have e : (sL h a j z).2.1 a k = h.2.1 a k := by
    show (if a = a ∧ k = j then z else h.2.1 a k) = _
    rw [if_neg (fun q => hk q.2)]
  unfold zfv
  cases t <;> simp only [e] <;> rfl
theorem sR_fv {B : Nat} {h : zHp} {a j k r : Nat} (t : FieldType) (hk : k ≠ j) : zfv B (sR h a j r) a t k = zfv B h a t k := by
  have e : (sR h a j r).2.2 a k = h.2.2 a k := by
    show (if a = a ∧ k = j then r else h.2.2 a k) = _
    rw [if_neg (fun q => hk q.2)]
  unfold zfv
  cases t <;> simp only [e] <;> rfl
section HEAP
variable {G : zG} {R : Room} {Z : List Frame → Array Value → State → State → Prop} {X : Array Value → State → Prop} {M : zM} {n0 n pc : Nat} {ls : zLs} {st : List zV} {h : zHp}
theorem wq_getv {a c j idx : Nat} {C : String} {T : u_T} {v : zV} (hf : zFd M.1.cls idx c j C T) (ht : zT n a = (100 + c, zN c)) (hv : zfv G.2.1 h a (zty c j) j = zv G.2.1 v) (hok : zRg h → zok v) (d : decode M.2.1 pc = .ok (.getfield idx, 3)) (k : wq G R Z X M n0 n (pc + 3) ls (v :: st) h) : wq G R Z X M n0 n pc ls (vR a :: st) h := by
  intro p e s m args below meth c9 H locs lr hX hH hl hn h1 h2
  obtain ⟨⟨c1, c2, c3, c4⟩, f1, f2⟩ := hf
  obtain ⟨q1, q2, q3⟩ := zT_at ht (by simp only; omega)
  have he := zl_get (G := G) (h := h) q1 q2
  rw [q3, zent_o] at he
  refine va_get hX.1 hX.2.1 hX.2.2.2.2.2.2.1 c2 hX.2.2.2.2.2.1 hX.2.2.2.2.2.2.2.2.1.1 hH.1.1 (a - 1) he c1 j f1 (hX.2.2.2.2.2.2.1 _ f2) (fun _ x => x) (zfl_get f1) d ?_
  rw [hv]
  exact k p e s m args below meth c9 H locs lr hX hH hl hn h1 (zcons (hok hH.1.2.2.2) (ztl h2))
theorem wq_getI {a c j idx : Nat} {C : String} {T : u_T} (hf : zFd M.1.cls idx c j C T) (ht : zT n a = (100 + c, zN c)) (hk : ∀ (B : Nat) (h : zHp) (a : Nat), zfv B h a (zty c j) j = .int (Int32.ofInt (h.1 a j))) (d : decode M.2.1 pc = .ok (.getfield idx, 3)) (k : wq G R Z X M n0 n (pc + 3) ls (vI (gI h a j) :: st) h) : wq G R Z X M n0 n pc ls (vR a :: st) h :=
  wq_getv (v := vI (gI h a j)) hf ht (hk _ _ _) (fun hr => (hr a j).1) d k
theorem wq_getL {a c j idx : Nat} {C : String} {T : u_T} (hf : zFd M.1.cls idx c j C T) (ht : zT n a = (100 + c, zN c)) (hk : ∀ (B : Nat) (h : zHp) (a : Nat), zfv B h a (zty c j) j = .long (Int64.ofInt (h.2.1 a j))) (d : decode M.2.1 pc = .ok (.getfield idx, 3)) (k : wq G R Z X M n0 n (pc + 3) ls (vL (gL h a j) :: st) h) : wq G R Z X M n0 n pc ls (vR a :: st) h :=
  wq_getv (v := vL (gL h a j)) hf ht (hk _ _ _) (fun hr => (hr a j).2) d k
theorem wq_getR {a c j idx r : Nat} {C : String} {T : u_T} (hf : zFd M.1.cls idx c j C T) (ht : zT n a = (100 + c, zN c)) (hk : ∀ (B : Nat) (h : zHp) (a : Nat), zfv B h a (zty c j) j = va_rf (zrO B (h.2.2 a j))) (hr : gR h a j = r) (h0 : r ≠ 0) (d : decode M.2.1 pc = .ok (.getfield idx, 3)) (k : wq G R Z X M n0 n (pc + 3) ls (vR r :: st) h) : wq G R Z X M n0 n pc ls (vR a :: st) h := by
  refine wq_getv (v := vR r) hf ht ?_ (fun _ => trivial) d k
  rw [hk, show h.2.2 a j = r from hr, zrO, if_neg h0]
  rfl
theorem wq_putv {a c j idx : Nat} {C : String} {T : u_T} {v : zV} {h' : zHp} (hf : zFd M.1.cls idx c j C T) (ht : zT n a = (100 + c, zN c)) (hfin : (T j).2.2.2 = false ∨ ((T j).2.2.2 = true ∧ M.1.name = "<init>" ∧ (T j).1 = M.1.cls))
    (hv : zfv G.2.1 h' a (zty c j) j = zv G.2.1 v) (hna : narrow (zty c j) (zv G.2.1 v) = zv G.2.1 v) (hfi : fits (zty c j) (zv G.2.1 v) = true) (ho : ∀ b, b ≠ a → h'.1 b = h.1 b ∧ h'.2.1 b = h.2.1 b ∧ h'.2.2 b = h.2.2 b) (ho2 : ∀ k, k ≠ j → zfv G.2.1 h' a (zty c k) k = zfv G.2.1 h a (zty c k) k) (hrg : zok v → zRg h → zRg h')
    (d : decode M.2.1 pc = .ok (.putfield idx, 3)) (k : wq G R Z X M n0 n (pc + 3) ls st h') : wq G R Z X M n0 n pc ls (v :: vR a :: st) h := by
  intro p e s m args below meth c9 H locs lr hX hH hl hn h1 h2
  obtain ⟨⟨c1, c2, c3, c4⟩, f1, f2⟩ := hf
  obtain ⟨q1, q2, q3⟩ := zT_at ht (by simp only; omega)
  have he := zl_get (G := G) (h := h) q1 q2
  rw [q3, zent_o] at he
  have hts := hX.2.2.2.2.2.2.1
  have hK := hX.2.2.2.2.2.2.2.2.1.1
  have hown := hX.2.2.2.2.2.1
  have hap := va_apart (own := M.1.cls) hts c2 (zty c) c3 c4 hK c1
  obtain ⟨r, g1, cell, w1, w2, w3, w4⟩ := hH.1.1 (a - 1) _ he
  have hr : r = (C, T, zN c) := Option.some.inj (g1.symm.trans c1)
  subst hr
  obtain ⟨hS, hfc, kC, hkC, hkind⟩ := hK.1 c _ c1
  obtain ⟨cf, kf, fi, f, hi, hsl⟩ := hS j f1
  have hlay := hts _ (c2 _ (u_in_lay f1))
  have hst := (u_facts hfc hkC (u_lays hts c2 f1) hi).1
  have fin : ∀ H1 : Heap, H1[G.2.1 + a]? = some (cell.setSlot f.slot (zv G.2.1 v)) → H1.size = H.size → (∀ q : Nat, q ≠ G.2.1 + a → H1[q]? = H[q]?) → W p G.1 e R s m args below meth c9 H1 (locs ++ [⟨G.2.1 + a, f.slot⟩]) (n - n0) (zSL n - zSL n0) (Z below args s) (F0 m (pc + 3) lr (st.map (zv G.2.1))) := by
    intro H1 e1 e2 e3
    refine k p e s m args below meth c9 H1 _ lr hX (zH_put hH q1 q2 ?_ e2 e3 ho (hrg (zhd h2) hH.1.2.2.2)) hl hn h1 (ztl (ztl h2))
    rw [q3, zent_o]
    refine ⟨_, c1, ?_⟩
    rw [hsl] at e1
    refine t_OB.to (V := updV (vp_V (zfl G.2.1 h a c)) j (zv G.2.1 v)) ⟨_, e1, w2, w3, t_set w4 hap f1 (zv G.2.1 v)⟩ (fun i _ => ?_)
    rw [vp_updV_set (by simp [zfl]; exact f1), ← hv, zfl_set f1 ho2]
  rcases hfin with hfin | ⟨hfin, hin, hdecl⟩
  · unfold u_lay at hlay
    rw [if_neg (by rw [hfin]; decide)] at hlay
    have h6 := u_store hfc hkC hkind hlay hi (c3 j f1) hna hfi
    exact W.putK hX.1 hX.2.1 (f := f) ⟨hown, hts _ f2, ⟨_, _, _, hi⟩, hst⟩ (by rw [w2]; exact h6) w1 w3 (by rw [hsl]; exact k2_hasslot (w4 j f1)) rfl rfl d fin
  · unfold u_lay at hlay
    rw [if_pos hfin] at hlay
    have hcf : m.cls = cf := by
      obtain ⟨_, _, c', _, _, _, -, -, hf', -, -, -, hown2, -⟩ := Cond.laysFinal_spec hlay
      have e1 : c' = cf := by have := hi.symm.trans hf'; simp at this; exact this.1.symm
      rw [hdecl] at hown2
      rw [← e1]; exact Option.some.inj (hown.symm.trans hown2)
    have h6 := u_fits hfc hkC hkind (Or.inr hlay) hi (c3 j f1) hna hfi
    exact W.putFinK hX.1 hX.2.1 hown (hts _ f2) hi hst hcf (hX.2.2.2.2.2.2.2.1.trans hin) (by rw [w2]; exact h6) w1 w3 (by rw [hsl]; exact k2_hasslot (w4 j f1)) rfl rfl d fin
/-- an int field that isn't final -/
theorem wq_putI {a c j idx : Nat} {C : String} {T : u_T} {z : Int} (hf : zFd M.1.cls idx c j C T) (ht : zT n a = (100 + c, zN c)) (hfin : (T j).2.2.2 = false) (hk : zty c j = .int) (d : decode M.2.1 pc = .ok (.putfield idx, 3)) (k : wq G R Z X M n0 n (pc + 3) ls st (sI h a j z)) : wq G R Z X M n0 n pc ls (vI z :: vR a :: st) h := by
  refine wq_putv hf ht (Or.inl hfin) ?_ (by rw [hk]; rfl) (by rw [hk]; rfl) (fun b hb => sI_row hb) (fun i hi => sI_fv _ hi) (fun hz hr => zRg_sI hr hz) d k
  rw [hk]
  show Value.int (Int32.ofInt (if a = a ∧ j = j then z else h.1 a j)) = _
  rw [if_pos ⟨rfl, rfl⟩]
  rfl
/-- a boolean field that isn't final -/
theorem wq_putZ {a c j idx : Nat} {C : String} {T : u_T} {z : Int} (hz01 : z = 0 ∨ z = 1) (hf : zFd M.1.cls idx c j C T) (ht : zT n a = (100 + c, zN c)) (hfin : (T j).2.2.2 = false) (hk : zty c j = .boolean) (d : decode M.2.1 pc = .ok (.putfield idx, 3)) (k : wq G R Z X M n0 n (pc + 3) ls st (sI h a j z)) : wq G R Z X M n0 n pc ls (vI z :: vR a :: st) h := by
  refine wq_putv hf ht (Or.inl hfin) ?_ (by rw [hk]; rcases hz01 with rfl | rfl <;> rfl) (by rw [hk]; rcases hz01 with rfl | rfl <;> rfl) (fun b hb => sI_row hb) (fun i hi => sI_fv _ hi) (fun hz hr => zRg_sI hr hz) d k
  rw [hk]
  show Value.int (Int32.ofInt (if a = a ∧ j = j then z else h.1 a j)) = _
  rw [if_pos ⟨rfl, rfl⟩]
  rfl
theorem wq_putL {a c j idx : Nat} {C : String} {T : u_T} {z : Int} (hf : zFd M.1.cls idx c j C T) (ht : zT n a = (100 + c, zN c)) (hfin : (T j).2.2.2 = false) (hk : zty c j = .long) (d : decode M.2.1 pc = .ok (.putfield idx, 3)) (k : wq G R Z X M n0 n (pc + 3) ls st (sL h a j z)) : wq G R Z X M n0 n pc ls (vL z :: vR a :: st) h := by
  refine wq_putv hf ht (Or.inl hfin) ?_ (by rw [hk]; rfl) (by rw [hk]; rfl) (fun b hb => sL_row hb) (fun i hi => sL_fv _ hi) (fun hz hr => zRg_sL hr hz) d k
  rw [hk]
  show Value.long (Int64.ofInt (if a = a ∧ j = j then z else h.2.1 a j)) = _
  rw [if_pos ⟨rfl, rfl⟩]
  rfl
theorem wq_putR {a c j idx r : Nat} {C : String} {T : u_T} (h0 : r ≠ 0) (hf : zFd M.1.cls idx c j C T) (ht : zT n a = (100 + c, zN c)) (hfin : (T j).2.2.2 = false ∨ ((T j).2.2.2 = true ∧ M.1.name = "<init>" ∧ (T j).1 = M.1.cls)) (hk : ∀ (B : Nat) (h : zHp) (a : Nat), zfv B h a (zty c j) j = va_rf (zrO B (h.2.2 a j))) (hna : ∀ q, narrow (zty c j) (.ref q) = .ref q) (hfi : ∀ q, fits (zty c j) (.ref q) = true) (d : decode M.2.1 pc = .ok (.putfield idx, 3)) (k : wq G R Z X M n0 n (pc + 3) ls st (sR h a j r)) : wq G R Z X M n0 n pc ls (vR r :: vR a :: st) h := by
  refine wq_putv hf ht hfin ?_ (hna _) (hfi _) (fun b hb => sR_row hb) (fun i hi => sR_fv _ hi) (fun _ hr => zRg_sR hr) d k
  rw [hk]
  show va_rf (zrO _ (if a = a ∧ j = j then r else h.2.2 a j)) = _
  rw [if_pos ⟨rfl, rfl⟩, zrO, if_neg h0]
  rfl
end HEAP
