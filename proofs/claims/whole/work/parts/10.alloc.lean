theorem zd_zero {B : Nat} {h : zHp} {n a : Nat} (hz : zZ n h) (ha : n < a) {t : FieldType} (j : Nat) (ht : t = .int ∨ t = .boolean ∨ t = .long ∨ (∃ c, t = .object c) ∨ ∃ c, t = .array c) : defaultValue t = zfv B h a t j := by
  obtain ⟨q1, q2, q3⟩ := hz a ha j
  rcases ht with rfl | rfl | rfl | ⟨c, rfl⟩ | ⟨c, rfl⟩
  · simp only [zfv, q1]; rfl
  · simp only [zfv, q1]; rfl
  · simp only [zfv, q2]; rfl
  · simp only [zfv, q3]; rfl
  · simp only [zfv, q3]; rfl
theorem zTyb_of {t : FieldType} (h : zTyb t = true) : t = .int ∨ t = .boolean ∨ t = .long ∨ (∃ c, t = .object c) ∨ ∃ c, t = .array c := by
  cases t <;> first | exact Or.inl rfl | exact Or.inr (Or.inl rfl) | exact Or.inr (Or.inr (Or.inl rfl)) | exact Or.inr (Or.inr (Or.inr (Or.inl ⟨_, rfl⟩))) | exact Or.inr (Or.inr (Or.inr (Or.inr ⟨_, rfl⟩))) | exact absurd h (by decide)
section ALLOC
variable {G : zG} {R : Room} {Z : List Frame → Array Value → State → State → Prop} {X : Array Value → State → Prop} {M : zM} {n0 n pc : Nat} {ls : zLs} {st : List zV} {h : zHp}
theorem zH_push {s : State} {H H1 : Heap} {locs : List Loc} (hH : zH G n0 n h s H locs) (hn : n0 ≤ n) (e1 : va_at G.2.2.1 zcl (G.2.1 + (n + 1), zent G h (n + 1) (zTAU (n + 1))) H1) (z1 : H1.size = H.size + 1) (o1 : ∀ q : Nat, q < H.size → H1[q]? = H[q]?) : zH G n0 (n + 1) h s H1 locs := by
  obtain ⟨⟨hP, hz, hZ, hr⟩, hS, hB⟩ := hH
  refine ⟨⟨?_, by omega, zZ_up hZ, hr⟩, ⟨by have := hS.1; omega, fun q g1 g2 => ?_, hS.2.2⟩, hB⟩
  · rw [zl_push]
    refine (hP.kept (fun k x hx => o1 x.1 ((hP k x hx).lt))).app (fun k x hx => ?_)
    have hz' : k < 1 := (List.getElem?_eq_some_iff.mp hx).1
    rw [show k = 0 by omega] at hx
    cases hx
    exact e1
  · rw [o1 q (Nat.lt_of_lt_of_le g1 hS.1)]
    exact hS.2.1 q g1 g2
theorem wq_new {c idx : Nat} {C : String} {T : u_T} (hcl : zCl c C T) (hty : ∀ j, j < zN c → zTyb (zty c j) = true) (hlk : Cond.classLink M.1.cls idx C ∈ zgw) (hins : Cond.instantiable C (zN c) ∈ zgw) (hini : Cond.initialized C ∈ zgw) (ht : zTAU (n + 1) = (100 + c, zN c)) (hR1 : n + 1 - n0 ≤ R.cells) (hR2 : zSL (n + 1) - zSL n0 ≤ R.slots) (d : decode M.2.1 pc = .ok (.new idx, 3)) (k : wq G R Z X M n0 (n + 1) (pc + 3) ls (vR (n + 1) :: st) h) : wq G R Z X M n0 n pc ls st h := by
  intro p e s m args below meth c9 H locs lr hX hH hl hn h1 h2
  have hts := hX.2.2.2.2.2.2.1
  have hK := hX.2.2.2.2.2.2.2.2.1.1
  have hKn := hK.1 c _ hcl.1
  have z0 := zSL_le hn
  have z1 : zSL (n + 1) = zSL n + zN c := by show zSL n + (zTAU (n + 1)).2 = _; rw [ht]
  refine W.newcK hX.1 hX.2.1 hX.2.2.2.2.2.1 (hts _ hlk) (hts _ hins) (hts _ hini) rfl d (by omega) (by omega) hKn.2.1 rfl fun H1 kC hkC e1 z2 o1 => ?_
  rw [show n - n0 + 1 = n + 1 - n0 by omega, show zSL n - zSL n0 + zN c = zSL (n + 1) - zSL n0 by omega]
  have hz : H.size = G.2.1 + (n + 1) := by have := hH.1.2.1; omega
  have kk := k p e s m args below meth c9 H1 locs lr hX (zH_push hH hn (by
      rw [ht, zent_o]
      rw [hz] at e1
      refine ⟨_, hcl.1, (u_born (zty c) hts hcl.2.1 hKn hkC e1 hcl.2.2.1).to (fun j hj => ?_)⟩
      rw [zd_zero (B := G.2.1) (a := n + 1) hH.1.2.2.1 (by omega) j (zTyb_of (hty j hj))]
      simp [vp_V, List.getD_eq_getElem?_getD, zfl_get hj]) z2 o1) hl (by omega) h1 (zcons trivial h2)
  rw [hz]
  exact kk
theorem wq_newI {z : Int} {len : Nat} (hz9 : z = len) (hb : len * 4 ≤ 536870912) (hac : Cond.arrayClass .int ∈ zgw) (ht : zTAU (n + 1) = (0, len)) (hR1 : n + 1 - n0 ≤ R.cells) (hR2 : zSL (n + 1) - zSL n0 ≤ R.slots) (d : decode M.2.1 pc = .ok (.newarray .int, 2)) (k : wq G R Z X M n0 (n + 1) (pc + 2) ls (vR (n + 1) :: st) h) : wq G R Z X M n0 n pc ls (vI z :: st) h := by
  intro p e s m args below meth c9 H locs lr hX hH hl hn h1 h2
  have hts := hX.2.2.2.2.2.2.1
  have hK := hX.2.2.2.2.2.2.2.2.1.1
  have z0 := zSL_le hn
  have z1 : zSL (n + 1) = zSL n + len := by show zSL n + (zTAU (n + 1)).2 = _; rw [ht]
  have hzi : zII z := zhd h2
  refine va_newaK (atype := .int) (N := len) hX.1 hX.2.1 (hts _ hac) rfl d rfl (fun q => by have := (zi_lt0 hzi).mp q; omega) (by rw [zi_nat hzi]; omega) hb (by omega) (by omega) rfl fun H1 cA e1 z2 o1 hAr hNm => ?_
  rw [show n - n0 + 1 = n + 1 - n0 by omega, show zSL n - zSL n0 + len = zSL (n + 1) - zSL n0 by omega]
  have hz : H.size = G.2.1 + (n + 1) := by have := hH.1.2.1; omega
  have hcA : cA = G.2.2.2 0 := Option.some.inj (hNm.symm.trans (hK.2 0 _ rfl).2)
  have kk := k p e s m args below meth c9 H1 locs lr hX (zH_push hH hn (by
      rw [ht, zent_0]
      rw [hz, hcA] at e1
      show H1[_]? = some (vp_cell _ _)
      rw [vp_cell_i, e1]
      congr 2
      funext j
      rw [(hH.1.2.2.1 (n + 1) (by omega) j).1]
      rfl) z2 o1) hl (by omega) h1 (zcons trivial (ztl h2))
  rw [hz]
  exact kk
theorem wq_newL {z : Int} {len : Nat} (hz9 : z = len) (hb : len * 8 ≤ 536870912) (hac : Cond.arrayClass .long ∈ zgw) (ht : zTAU (n + 1) = (1, len)) (hR1 : n + 1 - n0 ≤ R.cells) (hR2 : zSL (n + 1) - zSL n0 ≤ R.slots) (d : decode M.2.1 pc = .ok (.newarray .long, 2)) (k : wq G R Z X M n0 (n + 1) (pc + 2) ls (vR (n + 1) :: st) h) : wq G R Z X M n0 n pc ls (vI z :: st) h := by
  intro p e s m args below meth c9 H locs lr hX hH hl hn h1 h2
  have hts := hX.2.2.2.2.2.2.1
  have hK := hX.2.2.2.2.2.2.2.2.1.1
  have z0 := zSL_le hn
  have z1 : zSL (n + 1) = zSL n + len := by show zSL n + (zTAU (n + 1)).2 = _; rw [ht]
  have hzi : zII z := zhd h2
  refine va_newaK (atype := .long) (N := len) hX.1 hX.2.1 (hts _ hac) rfl d rfl (fun q => by have := (zi_lt0 hzi).mp q; omega) (by rw [zi_nat hzi]; omega) hb (by omega) (by omega) rfl fun H1 cA e1 z2 o1 hAr hNm => ?_
  rw [show n - n0 + 1 = n + 1 - n0 by omega, show zSL n - zSL n0 + len = zSL (n + 1) - zSL n0 by omega]
  have hz : H.size = G.2.1 + (n + 1) := by have := hH.1.2.1; omega
  have hcA : cA = G.2.2.2 1 := Option.some.inj (hNm.symm.trans (hK.2 1 _ rfl).2)
  have kk := k p e s m args below meth c9 H1 locs lr hX (zH_push hH hn (by
      rw [ht, zent_1]
      rw [hz, hcA] at e1
      show H1[_]? = some (vp_cell _ _)
      rw [vp_cell_l, e1]
      congr 2
      funext j
      rw [(hH.1.2.2.1 (n + 1) (by omega) j).2.1]
      rfl) z2 o1) hl (by omega) h1 (zcons trivial (ztl h2))
  rw [hz]
  exact kk
theorem wq_newA {z : Int} {len t idx : Nat} {C : String} (hz9 : z = len) (hb : len * 4 ≤ 536870912) (t1 : 2 ≤ t) (t2 : t < 99) (hC : (ztys G)[t]? = some (G.2.2.2 t, .object C)) (hao : ∀ s, zKx G s → va_AO C s) (hlk : Cond.classLink M.1.cls idx C ∈ zgw) (ht : zTAU (n + 1) = (t, len)) (hR1 : n + 1 - n0 ≤ R.cells) (hR2 : zSL (n + 1) - zSL n0 ≤ R.slots) (d : decode M.2.1 pc = .ok (.anewarray idx, 3)) (k : wq G R Z X M n0 (n + 1) (pc + 3) ls (vR (n + 1) :: st) h) : wq G R Z X M n0 n pc ls (vI z :: st) h := by
  intro p e s m args below meth c9 H locs lr hX hH hl hn h1 h2
  have hts := hX.2.2.2.2.2.2.1
  have hK := hX.2.2.2.2.2.2.2.2.1.1
  have z0 := zSL_le hn
  have z1 : zSL (n + 1) = zSL n + len := by show zSL n + (zTAU (n + 1)).2 = _; rw [ht]
  have hzi : zII z := zhd h2
  have hzn : (Int32.ofInt z).toNatClampNeg = len := by rw [zi_nat hzi]; omega
  refine W.anew hX.1 hX.2.1 hX.2.2.2.2.2.1 (hts _ hlk) ((hao s hX.2.2.2.2.2.2.2.2.1).use) rfl d rfl (fun q => by have := (zi_lt0 hzi).mp q; omega) (by rw [hzn]; exact hb) (by omega) (by rw [hzn]; omega) fun cA kA comp f1 f2 f3 f4 => ?_
  rw [hzn]
  rw [show n - n0 + 1 = n + 1 - n0 by omega, show zSL n - zSL n0 + len = zSL (n + 1) - zSL n0 by omega]
  have hz : H.size = G.2.1 + (n + 1) := by have := hH.1.2.1; omega
  obtain ⟨_, _, _, _, _, k4⟩ := (hK.2 t _ hC).2
  have hcA : cA = G.2.2.2 t := Option.some.inj (f1.symm.trans k4)
  generalize hH1 : H.push ({ cls := cA, slots := Array.replicate len .null, vm := .none } : Cell) = H1
  have z2 : H1.size = H.size + 1 := by rw [← hH1, Array.size_push]
  have e1 : H1[H.size]? = some (arrV cA len (fun _ => .null)) := by rw [← hH1, Array.getElem?_push_size, ← arrV_new]
  have o1 : ∀ q : Nat, q < H.size → H1[q]? = H[q]? := fun q hq => by rw [← hH1, Array.getElem?_push, if_neg (Nat.ne_of_lt hq)]
  have kk := k p e s m args below meth c9 H1 locs lr hX (zH_push hH hn (by
      rw [ht, zent_a t1 (by omega)]
      rw [hz, hcA] at e1
      show H1[_]? = some (vp_cell _ _)
      rw [vp_cell_q, e1]
      congr 2
      funext j
      rw [(hH.1.2.2.1 (n + 1) (by omega) j).2.2]
      rfl) z2 o1) hl (by omega) h1 (zcons trivial (ztl h2))
  rw [hz]
  exact kk
theorem zW_size {p : Program} {e : Env} {s : State} {m : MethodId} {args : Array Value} {below : List Frame} {meth : Method} {c : Code} {H : Heap} {locs : List Loc} {Q : State → Prop} {g : JFrame} (hs : s.heap.size = G.2.1 + n0 + 1) (hn : n0 ≤ n) (hP : va_P G.2.2.1 zcl (zl G n h) H) (hS : va_S (zA G) s.heap H locs)
    (k : H.size = G.2.1 + n + 1 → W p G.1 e R s m args below meth c H locs (n - n0) (zSL n - zSL n0) Q g) : W p G.1 e R s m args below meth c H locs (n - n0) (zSL n - zSL n0) Q g := by
  intro T hT X'
  refine k ?_ T hT X'
  have g1 := X'.heapSize
  rw [hT, hs] at g1
  by_cases h0 : n = 0
  · have := hS.1
    omega
  · have g2 := (hP (n - 1) _ (zl_get (a := n) (by omega) (Nat.le_refl n))).lt
    simp only at g2
    omega
def cpI (h : zHp) (a0 sp a dp k : Nat) : zHp := (fun b j => if b = a ∧ dp ≤ j ∧ j < dp + k then h.1 a0 (sp + (j - dp)) else h.1 b j, h.2.1, h.2.2)
theorem wq_copyI {idx a0 a l0 l1 : Nat} {sp dp k9 : Int} (hlk : Cond.methodLink M.1.cls idx arraycopyName ∈ zgw) (hna : Cond.native arraycopyName ∈ zgw) (hst : Cond.static arraycopyName ∈ zgw) (hin : Cond.initialized "java/lang/System" ∈ zgw) (ht0 : zT n a0 = (0, l0)) (ht1 : zT n a = (0, l1)) (g1 : 0 ≤ sp) (g2 : 0 ≤ dp) (g3 : 0 ≤ k9) (g4 : sp + k9 ≤ l0) (g5 : dp + k9 ≤ l1) (hf : 1 ≤ R.frames) (hlo : 99 ≤ R.locals) (hcat : (st.map zcat).sum ≤ 8) (d : decode M.2.1 pc = .ok (.invokestatic idx, 3))
    (k : wq G R Z X M n0 n (pc + 3) ls st (cpI h a0 sp.toNat a dp.toNat k9.toNat)) : wq G R Z X M n0 n pc ls (vI k9 :: vI dp :: vR a :: vI sp :: vR a0 :: st) h := by
  intro p e s m args below meth c9 H locs lr hX hH hl hn h1 h2
  have hts := hX.2.2.2.2.2.2.1
  have hK := hX.2.2.2.2.2.2.2.2.1.1
  obtain ⟨q1, q2, q3⟩ := zT_at ht0 (by simp)
  have he0 := zl_get (G := G) (h := h) q1 q2
  rw [q3, zent_0] at he0
  obtain ⟨w1, w2, w3⟩ := zT_at ht1 (by simp)
  have he1 := zl_get (G := G) (h := h) w1 w2
  rw [w3, zent_0] at he1
  have i1 : zII k9 := zhd h2
  have i2 : zII dp := zhd (ztl h2)
  have i3 : zII sp := zhd (ztl (ztl (ztl h2)))
  refine va_copyi hX.1 hX.2.1 (by rw [hX.2.2.2.2.1]; exact hl.1.symm) hX.2.2.2.2.2.1 (hts _ hlk) (hts _ hna) (hts _ hst) (hts _ hin) hK hH.1.1 (zD G n h) hH.2.1 (a0 - 1) (a - 1) 0 0 he0 he1 rfl rfl rfl (fun q => by have := (zi_lt0 i3).mp q; omega) (fun q => by have := (zi_lt0 i2).mp q; omega) (fun q => by have := (zi_lt0 i1).mp q; omega) (by rw [zi_nat i3, zi_nat i1]; omega) (by rw [zi_nat i2, zi_nat i1]; omega) (fun i _ => rfl) hf ?_ d (fun H1 locs1 hP1 hD1 hS1 => ?_)
  · have e : ((st.map (zv G.2.1)).map fun v => v.category) = st.map zcat := by rw [List.map_map]; exact List.map_congr_left (fun v _ => zcat_v _ v)
    rw [e]
    have : nativeFrameWords "java/lang/System" "arraycopy" 5 ≤ 80 := by decide +kernel
    omega
  · have hrow : (cpI h a0 sp.toNat a dp.toNat k9.toNat).2 = h.2 := rfl
    have ho : ∀ b, b ≠ a → (cpI h a0 sp.toNat a dp.toNat k9.toNat).1 b = h.1 b ∧ (cpI h a0 sp.toNat a dp.toNat k9.toNat).2.1 b = h.2.1 b ∧ (cpI h a0 sp.toNat a dp.toNat k9.toNat).2.2 b = h.2.2 b := by
      intro b hb
      refine ⟨?_, rfl, rfl⟩
      funext j
      show (if b = a ∧ _ then _ else h.1 b j) = _
      rw [if_neg (fun q => hb q.1)]
    have ee : (G.2.1 + a, (.inl (G.2.2.2 0, l1, .inl (va_cpy (fun j => Int32.ofInt (h.1 a0 j)) (fun j => Int32.ofInt (h.1 a j)) (Int32.ofInt sp).toNatClampNeg (Int32.ofInt dp).toNatClampNeg (Int32.ofInt k9).toNatClampNeg)) : va_E)) = (G.2.1 + a, zent G (cpI h a0 sp.toNat a dp.toNat k9.toNat) a (zTAU a)) := by
      rw [w3, zent_0, zi_nat i1, zi_nat i2, zi_nat i3]
      congr 5
      funext j
      unfold va_cpy
      show _ = Int32.ofInt (if a = a ∧ dp.toNat ≤ j ∧ j < dp.toNat + k9.toNat then h.1 a0 (sp.toNat + (j - dp.toNat)) else h.1 a j)
      by_cases hj : dp.toNat ≤ j ∧ j < dp.toNat + k9.toNat
      · rw [if_pos hj, if_pos ⟨rfl, hj⟩]
      · rw [if_neg hj, if_neg (fun q => hj q.2)]
    rw [ee, zl_set w1 w2 (fun b hb => zent_row _ (ho b hb))] at hP1
    refine zW_size hH.2.2 hn hP1 hS1 (fun hz1 => ?_)
    refine k p e s m args below meth c9 H1 locs1 lr hX ⟨⟨hP1, hz1, fun b hb i => ?_, fun b i => ⟨?_, (hH.1.2.2.2 b i).2⟩⟩, hS1, hH.2.2⟩ hl hn h1 (ztl (ztl (ztl (ztl (ztl h2)))))
    · obtain ⟨o1, o2, o3⟩ := ho b (by omega)
      rw [o1, o2, o3]
      exact hH.1.2.2.1 b hb i
    · show zII (if b = a ∧ _ then _ else h.1 b i)
      split
      · exact (hH.1.2.2.2 _ _).1
      · exact (hH.1.2.2.2 b i).1
theorem wq_callIN {idx nE' d' a : Nat} {M' : zM} {host : String} {As stk : List zV} {Q' : Option zV → zHp → Prop} (kP : Nat) (hm : zMd M' kP) (hret : M'.2.2.2 = none) (hnm : M'.1.name = "<init>") (hi : Cond.instanceMethod M'.1 ∈ zgw) (hlk : ∀ s, zKx G s → va_Nw (.methodLinkNest M.1.cls idx M'.1 host) s) (hst : stk = As.reverse ++ vR a :: st) (hk : As.length = kP) (hsz : zsz (vR a :: As) ≤ M'.2.2.1) (hcat : (st.map zcat).sum ≤ 8) (hn' : n ≤ nE') (hR : zFit R n0 nE' d') (d : decode M.2.1 pc = .ok (.invokespecial idx, 3))
    (hw : wp G d' n nE' M' n 0 (zar 0 (vR a :: As)) [] h Q') (k : ∀ (v : Option zV) (h' : zHp), Q' v h' → (∀ x ∈ v.toList, zok x) → wq G R Z X M n0 nE' (pc + 3) ls (v.toList ++ st) h') : wq G R Z X M n0 n pc ls stk h := by
  intro p e s m args below meth c9 H locs lr hX hH hl hn h1 h2
  subst hst
  have hok : ∀ v ∈ vR a :: As, zok v := zcons trivial (fun w hw => h2 w (List.mem_append_left _ (List.mem_reverse.mpr hw)))
  have hst : ∀ v ∈ st, zok v := fun w hw => h2 w (List.mem_append_right _ (List.mem_cons_of_mem _ hw))
  have hM := zMet hw hok hm.1 hsz
  have hK := hX.2.2.2.2.2.2.2.2.1
  have hts := hX.2.2.2.2.2.2.1
  rw [hret] at hM
  refine zcall_go (d' := d') (a9 := ((vR a :: As).map (zv G.2.1)).toArray) hn' hX hH hl hn h1 hst ?_ k
  have hGo : GoodIn zgw (Cond.code M'.1 M'.2.1 M'.2.2.1 none :: zgw) := fun w hw => by
    rcases List.mem_cons.mp hw with rfl | hw
    · rw [← hret]; exact zgw_good _ hm.2.1
    · exact zgw_good _ hw
  exact va_runIN (b := G.2.1 + a) (As := As.map (zv G.2.1)) (rest := st.map (zv G.2.1)) (g := F0 m pc lr ((As.reverse ++ vR a :: st).map (zv G.2.1))) (host := host) ⟨hX.1, hX.2.1, hX.2.2.2.2.1, hX.2.2.2.2.2.1, hX.2.2.2.2.2.2.1⟩ hM
    ⟨va_cnB (Ts := zgw) kP hts hGo rfl rfl rfl (hlk s hK) (hts _ hm.2.2.1) ⟨hm.2.2.2.1.1, hm.2.2.2.1.2, hm.2.2.2.2.1⟩ ⟨hR.1, by have := hR.2.1; have := hm.2.2.2.2.2; show 8 + (M'.2.2.1 + 11) + 100 * d' ≤ R.locals; omega⟩, hnm, hts _ hi⟩
    ⟨zPc_blind, fun U hU hW => ⟨rfl, by rw [hU]; exact hH.1, hK.moved hW⟩⟩ rfl (by rw [List.length_map]; exact hk) hl.1 (by simp [zv]) (lv_room (by
      have e : ((st.map (zv G.2.1)).map fun v => v.category) = st.map zcat := by rw [List.map_map]; exact List.map_congr_left (fun v _ => zcat_v _ v)
      rw [e]; exact hcat)) d (zfit_cells hR hn hn')
end ALLOC
