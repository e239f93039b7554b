theorem zi_ofNat (k : Nat) : Int32.ofInt (k : Int) = Int32.ofNat k := by
  show (⟨⟨BitVec.ofInt 32 (k : Int)⟩⟩ : Int32) = ⟨⟨BitVec.ofNat 32 k⟩⟩
  rw [BitVec.ofInt_natCast]
theorem zZ_up {n : Nat} {h : zHp} (hz : zZ n h) : zZ (n + 1) h := fun a ha i => hz a (by omega) i
section ARR
variable {G : zG} {R : Room} {Z : List Frame → Array Value → State → State → Prop} {X : Array Value → State → Prop} {M : zM} {n0 n pc : Nat} {ls : zLs} {st : List zV} {h : zHp}
theorem wq_iald {a len : Nat} {i : Int} (ht : zT n a = (0, len)) (i0 : 0 ≤ i) (i1 : i < len) (d : decode M.2.1 pc = .ok (.iaload, 1)) (k : wq G R Z X M n0 n (pc + 1) ls (vI (gI h a i.toNat) :: st) h) : wq G R Z X M n0 n pc ls (vI i :: vR a :: st) h := by
  intro p e s m args below meth c H locs lr hX hH hl hn h1 h2
  obtain ⟨q1, q2, q3⟩ := zT_at ht (by simp)
  have he := zl_get (G := G) (h := h) q1 q2
  rw [q3, zent_0] at he
  refine va_iald hX.1 hX.2.1 hX.2.2.2.2.2.2.2.2.1.1 hH.1.1 (a - 1) 0 he rfl (zi_in (zhd h2) i0 i1) d ?_
  simp only [zi_nat (show zII i from zhd h2)]
  exact k p e s m args below meth c H locs lr hX hH hl hn h1 (zcons (hH.1.2.2.2 a i.toNat).1 (ztl (ztl h2)))
theorem wq_lald {a len : Nat} {i : Int} (ht : zT n a = (1, len)) (i0 : 0 ≤ i) (i1 : i < len) (d : decode M.2.1 pc = .ok (.laload, 1)) (k : wq G R Z X M n0 n (pc + 1) ls (vL (gL h a i.toNat) :: st) h) : wq G R Z X M n0 n pc ls (vI i :: vR a :: st) h := by
  intro p e s m args below meth c H locs lr hX hH hl hn h1 h2
  obtain ⟨q1, q2, q3⟩ := zT_at ht (by simp)
  have he := zl_get (G := G) (h := h) q1 q2
  rw [q3, zent_1] at he
  refine va_lald hX.1 hX.2.1 hX.2.2.2.2.2.2.2.2.1.1 hH.1.1 (a - 1) 1 he rfl (zi_in (zhd h2) i0 i1) d ?_
  simp only [zi_nat (show zII i from zhd h2)]
  exact k p e s m args below meth c H locs lr hX hH hl hn h1 (zcons (hH.1.2.2.2 a i.toNat).2 (ztl (ztl h2)))
theorem wq_aald {a t len r : Nat} {C : String} {i : Int} (ht : zT n a = (t, len)) (t1 : 2 ≤ t) (t2 : t < 99) (hC : (ztys G)[t]? = some (G.2.2.2 t, .object C)) (i0 : 0 ≤ i) (i1 : i < len) (hr : gR h a i.toNat = r) (r0 : r ≠ 0) (d : decode M.2.1 pc = .ok (.aaload, 1)) (k : wq G R Z X M n0 n (pc + 1) ls (vR r :: st) h) : wq G R Z X M n0 n pc ls (vI i :: vR a :: st) h := by
  intro p e s m args below meth c H locs lr hX hH hl hn h1 h2
  obtain ⟨q1, q2, q3⟩ := zT_at ht (by simp only; omega)
  have he := zl_get (G := G) (h := h) q1 q2
  rw [q3, zent_a t1 (by omega)] at he
  refine va_aldq hX.1 hX.2.1 hX.2.2.2.2.2.2.2.2.1.1 hH.1.1 (a - 1) t he hC (zi_in (zhd h2) i0 i1) d ?_
  simp only [zi_nat (show zII i from zhd h2)]
  rw [show h.2.2 a i.toNat = r from hr, zrO, if_neg r0]
  exact k p e s m args below meth c H locs lr hX hH hl hn h1 (zcons trivial (ztl (ztl h2)))
theorem wq_alen {a t len : Nat} (ht : zT n a = (t, len)) (ht9 : t ≤ 5) (hl9 : len ≤ 2147483647) (d : decode M.2.1 pc = .ok (.arraylength, 1)) (k : wq G R Z X M n0 n (pc + 1) ls (vI (len : Int) :: st) h) : wq G R Z X M n0 n pc ls (vR a :: st) h := by
  intro p e s m args below meth c H locs lr hX hH hl hn h1 h2
  obtain ⟨q1, q2, q3⟩ := zT_at ht (by simp only; omega)
  have he := zl_get (G := G) (h := h) q1 q2
  rw [q3] at he
  have kk := k p e s m args below meth c H locs lr hX hH hl hn h1 (zcons ⟨by omega, by omega⟩ (ztl h2))
  have hv : ∀ {x : vp_A}, x.1 = len → Int32.ofNat x.1 = Int32.ofInt (len : Int) := fun e => by rw [e, zi_ofNat]
  rcases (show t = 0 ∨ t = 1 ∨ t = 2 ∨ t = 3 ∨ t = 4 ∨ t = 5 by omega) with rfl | rfl | rfl | rfl | rfl | rfl
  · rw [zent_0] at he
    exact va_alen hX.1 hX.2.1 hX.2.2.2.2.2.2.2.2.1.1 hH.1.1 (a - 1) 0 he rfl (hv rfl) d kk
  · rw [zent_1] at he
    exact va_alen hX.1 hX.2.1 hX.2.2.2.2.2.2.2.2.1.1 hH.1.1 (a - 1) 1 he rfl (hv rfl) d kk
  · rw [zent_a (by omega) (by omega)] at he
    exact va_alen hX.1 hX.2.1 hX.2.2.2.2.2.2.2.2.1.1 hH.1.1 (a - 1) 2 he rfl (hv rfl) d kk
  · rw [zent_a (by omega) (by omega)] at he
    exact va_alen hX.1 hX.2.1 hX.2.2.2.2.2.2.2.2.1.1 hH.1.1 (a - 1) 3 he rfl (hv rfl) d kk
  · rw [zent_a (by omega) (by omega)] at he
    exact va_alen hX.1 hX.2.1 hX.2.2.2.2.2.2.2.2.1.1 hH.1.1 (a - 1) 4 he rfl (hv rfl) d kk
  · rw [zent_a (by omega) (by omega)] at he
    exact va_alen hX.1 hX.2.1 hX.2.2.2.2.2.2.2.2.1.1 hH.1.1 (a - 1) 5 he rfl (hv rfl) d kk
theorem wq_iast {a len : Nat} {i z : Int} (ht : zT n a = (0, len)) (i0 : 0 ≤ i) (i1 : i < len) (d : decode M.2.1 pc = .ok (.iastore, 1)) (k : wq G R Z X M n0 n (pc + 1) ls st (sI h a i.toNat z)) : wq G R Z X M n0 n pc ls (vI z :: vI i :: vR a :: st) h := by
  intro p e s m args below meth c H locs lr hX hH hl hn h1 h2
  obtain ⟨q1, q2, q3⟩ := zT_at ht (by simp)
  have he := zl_get (G := G) (h := h) q1 q2
  rw [q3, zent_0] at he
  have hi : zII i := zhd (ztl h2)
  refine W.iast hX.1 hX.2.1 (hH.1.1 (a - 1) _ he) ((hX.2.2.2.2.2.2.2.2.1.1.2 0 _ rfl).1 len (fun j => .int (Int32.ofInt (h.1 a j)))) (fun q => by cases q) (by show ¬ (_ < 0 ∨ (arrV _ _ _).slots.size ≤ _); rw [arrV_size]; exact zi_in hi i0 i1) rfl rfl d fun H1 e1 e2 e3 => ?_
  refine k p e s m args below meth c H1 _ lr hX (zH_put hH q1 q2 ?_ e2 e3 (fun b hb => sI_row hb) (zRg_sI hH.1.2.2.2 (zhd h2))) hl hn h1 (ztl (ztl (ztl h2)))
  rw [q3, zent_0]
  show H1[_]? = some (vp_cell _ _)
  rw [e1]
  show some ((vp_cell _ _).setSlot _ _) = _
  rw [vp_cell_i, vp_cell_i, arrV_store, zi_nat hi]
  congr 2
  funext q
  show _ = Value.int (Int32.ofInt (if a = a ∧ q = i.toNat then z else h.1 a q))
  by_cases hq : q = i.toNat
  · rw [if_pos ⟨rfl, hq⟩]
    simp [updV, hq]
  · rw [if_neg (fun x => hq x.2)]
    simp [updV, hq]
theorem wq_last {a len : Nat} {i z : Int} (ht : zT n a = (1, len)) (i0 : 0 ≤ i) (i1 : i < len) (d : decode M.2.1 pc = .ok (.lastore, 1)) (k : wq G R Z X M n0 n (pc + 1) ls st (sL h a i.toNat z)) : wq G R Z X M n0 n pc ls (vL z :: vI i :: vR a :: st) h := by
  intro p e s m args below meth c H locs lr hX hH hl hn h1 h2
  obtain ⟨q1, q2, q3⟩ := zT_at ht (by simp)
  have he := zl_get (G := G) (h := h) q1 q2
  rw [q3, zent_1] at he
  have hi : zII i := zhd (ztl h2)
  refine W.last hX.1 hX.2.1 (hH.1.1 (a - 1) _ he) ((hX.2.2.2.2.2.2.2.2.1.1.2 1 _ rfl).1 len (fun j => .long (Int64.ofInt (h.2.1 a j)))) (fun q => by cases q) (by show ¬ (_ < 0 ∨ (arrV _ _ _).slots.size ≤ _); rw [arrV_size]; exact zi_in hi i0 i1) rfl rfl d fun H1 e1 e2 e3 => ?_
  refine k p e s m args below meth c H1 _ lr hX (zH_put hH q1 q2 ?_ e2 e3 (fun b hb => sL_row hb) (zRg_sL hH.1.2.2.2 (zhd h2))) hl hn h1 (ztl (ztl (ztl h2)))
  rw [q3, zent_1]
  show H1[_]? = some (vp_cell _ _)
  rw [e1]
  show some ((vp_cell _ _).setSlot _ _) = _
  rw [vp_cell_l, vp_cell_l, arrV_store, zi_nat hi]
  congr 2
  funext q
  show _ = Value.long (Int64.ofInt (if a = a ∧ q = i.toNat then z else h.2.1 a q))
  by_cases hq : q = i.toNat
  · rw [if_pos ⟨rfl, hq⟩]
    simp [updV, hq]
  · rw [if_neg (fun x => hq x.2)]
    simp [updV, hq]
theorem wq_aast {a t len r cc : Nat} {C : String} {T : u_T} {i : Int} (ht : zT n a = (t, len)) (t1 : 2 ≤ t) (t2 : t < 99) (hC : (ztys G)[t]? = some (G.2.2.2 t, .object C)) (hr : zT n r = (100 + cc, zN cc)) (r0 : r ≠ 0) (hcl : zcl[cc]? = some (C, T, zN cc)) (i0 : 0 ≤ i) (i1 : i < len) (d : decode M.2.1 pc = .ok (.aastore, 1)) (k : wq G R Z X M n0 n (pc + 1) ls st (sR h a i.toNat r)) : wq G R Z X M n0 n pc ls (vR r :: vI i :: vR a :: st) h := by
  intro p e s m args below meth c H locs lr hX hH hl hn h1 h2
  obtain ⟨q1, q2, q3⟩ := zT_at ht (by simp only; omega)
  have he := zl_get (G := G) (h := h) q1 q2
  rw [q3, zent_a t1 (by omega)] at he
  obtain ⟨w1, w2, w3⟩ := zT_at hr (by simp only; omega)
  have hv := zl_get (G := G) (h := h) w1 w2
  rw [w3, zent_o] at hv
  have hi : zII i := zhd (ztl h2)
  have hK := hX.2.2.2.2.2.2.2.2.1.1
  have hlt : (Int32.ofInt i).toNatClampNeg < len := by rw [zi_nat hi]; omega
  obtain ⟨r', hr', cellV, g1, g2, g3, -⟩ := hH.1.1 (r - 1) _ hv
  have hcls := (hK.1 cc _ hcl).2
  obtain ⟨kA, comp, k1, k2, k3, -⟩ := (hK.2 t _ hC).2
  have hcomp : comp = G.2.2.1.1 cc := Option.some.inj (k3.symm.trans hcls.1)
  subst hcomp
  obtain ⟨kC, hkC, -⟩ := hcls.2
  refine W.aast hX.1 hX.2.1 (hH.1.1 (a - 1) _ he) (fun q h => by cases h) (fun h => by cases h) k1 k2 rfl hkC ⟨fun q => by have := (zi_lt0 hi).mp q; omega, by show _ < (arrV _ _ _).slots.size; rw [arrV_size]; exact hlt⟩ g1 (fun q h => by rw [g3] at h; cases h) (by rw [g2]; exact hkC) (by rw [g2]; exact va_assign hcls) rfl rfl d fun H1 e1 e2 e3 => ?_
  refine k p e s m args below meth c H1 _ lr hX (zH_put hH q1 q2 ?_ e2 e3 (fun b hb => sR_row hb) (zRg_sR hH.1.2.2.2)) hl hn h1 (ztl (ztl (ztl h2)))
  rw [q3, zent_a t1 (by omega)]
  show H1[_]? = some (vp_cell _ _)
  rw [e1]
  show some ((vp_cell _ _).setSlot _ _) = _
  rw [vp_cell_q, vp_cell_q, arrV_store, zi_nat hi]
  congr 2
  funext q
  show _ = va_rf (zrO _ (if a = a ∧ q = i.toNat then r else h.2.2 a q))
  by_cases hq : q = i.toNat
  · rw [if_pos ⟨rfl, hq⟩, zrO, if_neg r0]
    simp [updV, hq, va_rf]
  · rw [if_neg (fun x => hq x.2)]
    simp [updV, hq]
end ARR
