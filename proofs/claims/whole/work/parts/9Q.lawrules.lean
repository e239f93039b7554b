/-! the law's own machine: as the small machine, and local 0 holds the script at the cell b -/
def wqS (b : Nat) (G : zG) (R : Room) (Z : List Frame → Array Value → State → State → Prop) (X : Array Value → State → Prop) (M : zM) (n0 n pc : Nat) (ls : zLs) (st : List zV) (h : zHp) : Prop :=
  ∀ (p : Program) (e : Env) (s : State) (m : MethodId) (args : Array Value) (below : List Frame) (meth : Method) (c : Code) (H : Heap) (locs : List Loc) (lr : Array Slot),
    zX G X M p s m args meth c → zH G n0 n h s H locs → lv_has lr M.2.2.1 (zlm G.2.1 ls) → n0 ≤ n → (∀ q ∈ ls, zok q.2) → (∀ v ∈ st, zok v) → lr[0]? = some (.val (.ref b)) →
    W p G.1 e R s m args below meth c H locs (n - n0) (zSL n - zSL n0) (Z below args s) (F0 m pc lr (st.map (zv G.2.1)))
section LAWRULES
variable {b : Nat} {G : zG} {R : Room} {Z : List Frame → Array Value → State → State → Prop} {X : Array Value → State → Prop} {M : zM} {n0 n pc : Nat} {ls : zLs} {st : List zV} {h : zHp}
theorem wS_sub {ls' : zLs} (hs : ∀ q ∈ ls', q ∈ ls) (k : wqS b G R Z X M n0 n pc ls' st h) : wqS b G R Z X M n0 n pc ls st h := by
  intro p e s m args below meth c H locs lr hX hH hl hn h1 h2 hb0
  refine k p e s m args below meth c H locs lr hX hH ⟨hl.1, hl.2.1, fun q hq => hl.2.2 q ?_⟩ hn (fun q hq => h1 q (hs q hq)) h2 hb0
  obtain ⟨x, hx, rfl⟩ := List.mem_map.mp hq
  exact List.mem_map.mpr ⟨x, hs x hx, rfl⟩
theorem wS_iconst {z : Int} (hz : zII z) (d : decode M.2.1 pc = .ok (.iconst z, 1)) (k : wqS b G R Z X M n0 n (pc + 1) ls (vI z :: st) h) : wqS b G R Z X M n0 n pc ls (st) h := by
  intro p e s m args below meth c H locs lr hX hH hl hn h1 h2 hb0
  exact lv_iconst hX.1 hX.2.1 d rfl (k p e s m args below meth c H locs lr hX hH hl hn h1 (zcons hz h2) hb0)
theorem wS_bipush {z : Int} (hz : zII z) (e9 : (Int8.ofInt z).toInt32 = Int32.ofInt z) (d : decode M.2.1 pc = .ok (.bipush z, 2)) (k : wqS b G R Z X M n0 n (pc + 2) ls (vI z :: st) h) : wqS b G R Z X M n0 n pc ls (st) h := by
  intro p e s m args below meth c H locs lr hX hH hl hn h1 h2 hb0
  exact lv_bipush hX.1 hX.2.1 d e9 (k p e s m args below meth c H locs lr hX hH hl hn h1 (zcons hz h2) hb0)
theorem wS_ldc2_w {i : Nat} {z : Int} (hz : zIL z) (hw : Cond.constantLong M.1.cls i (Int64.ofInt z) ∈ zgw) (d : decode M.2.1 pc = .ok (.ldc2_w i, 3)) (k : wqS b G R Z X M n0 n (pc + 3) ls (vL z :: st) h) : wqS b G R Z X M n0 n pc ls (st) h := by
  intro p e s m args below meth c H locs lr hX hH hl hn h1 h2 hb0
  exact lv_ldc2 hX.1 hX.2.1 hX.2.2.2.2.2.1 (hX.2.2.2.2.2.2.1 _ hw) d (k p e s m args below meth c H locs lr hX hH hl hn h1 (zcons hz h2) hb0)
theorem wS_iload_n {i : Fin 4} {j : Nat} {x : Int} (q : Nat) (hj : (i : Nat) = j) (hq : ls[q]? = some (j, vI x)) (d : decode M.2.1 pc = .ok (.iload_n i, 1)) (k : wqS b G R Z X M n0 n (pc + 1) ls (vI x :: st) h) : wqS b G R Z X M n0 n pc ls (st) h := by
  intro p e s m args below meth c H locs lr hX hH hl hn h1 h2 hb0
  exact lv_iload_n hX.1 hX.2.1 d hj (zlm_at hl q hq) (k p e s m args below meth c H locs lr hX hH hl hn h1 (zcons (zls_ok h1 hq) h2) hb0)
theorem wS_aload_n {i : Fin 4} {j : Nat} {x : Nat} (q : Nat) (hj : (i : Nat) = j) (hq : ls[q]? = some (j, vR x)) (d : decode M.2.1 pc = .ok (.aload_n i, 1)) (k : wqS b G R Z X M n0 n (pc + 1) ls (vR x :: st) h) : wqS b G R Z X M n0 n pc ls (st) h := by
  intro p e s m args below meth c H locs lr hX hH hl hn h1 h2 hb0
  exact lv_aload_n hX.1 hX.2.1 d hj (zlm_at hl q hq) (k p e s m args below meth c H locs lr hX hH hl hn h1 (zcons (zls_ok h1 hq) h2) hb0)
theorem wS_iand {x y : Int} (d : decode M.2.1 pc = .ok (.iand, 1)) (k : wqS b G R Z X M n0 n (pc + 1) ls (vI (zand x y) :: st) h) : wqS b G R Z X M n0 n pc ls (vI y :: vI x :: st) h := by
  intro p e s m args below meth c H locs lr hX hH hl hn h1 h2 hb0
  refine lv_iand hX.1 hX.2.1 d ?_
  have q := k p e s m args below meth c H locs lr hX hH hl hn h1 (zcons (zi_rng _) (ztl (ztl h2))) hb0
  simp only [List.map_cons, zv, zand, zi_back] at q
  exact q
theorem wS_i2l {x : Int} (d : decode M.2.1 pc = .ok (.i2l, 1)) (k : wqS b G R Z X M n0 n (pc + 1) ls (vL x :: st) h) : wqS b G R Z X M n0 n pc ls (vI x :: st) h := by
  intro p e s m args below meth c H locs lr hX hH hl hn h1 h2 hb0
  have q := zi_i2l (zhd h2)
  exact lv_i2l hX.1 hX.2.1 d q.1 (k p e s m args below meth c H locs lr hX hH hl hn h1 (zcons q.2 (ztl h2)) hb0)
theorem wS_lshl {x y : Int} (d : decode M.2.1 pc = .ok (.lshl, 1)) (k : wqS b G R Z X M n0 n (pc + 1) ls (vL (zshl x y) :: st) h) : wqS b G R Z X M n0 n pc ls (vI y :: vL x :: st) h := by
  intro p e s m args below meth c H locs lr hX hH hl hn h1 h2 hb0
  refine lv_lshl hX.1 hX.2.1 d rfl ?_
  have q := k p e s m args below meth c H locs lr hX hH hl hn h1 (zcons (zl_rng _) (ztl (ztl h2))) hb0
  simp only [List.map_cons, zv, zshl, zl_back] at q
  exact q
theorem wS_land {x y : Int} (d : decode M.2.1 pc = .ok (.land, 1)) (k : wqS b G R Z X M n0 n (pc + 1) ls (vL (zandL x y) :: st) h) : wqS b G R Z X M n0 n pc ls (vL y :: vL x :: st) h := by
  intro p e s m args below meth c H locs lr hX hH hl hn h1 h2 hb0
  refine lv_land hX.1 hX.2.1 d ?_
  have q := k p e s m args below meth c H locs lr hX hH hl hn h1 (zcons (zl_rng _) (ztl (ztl h2))) hb0
  simp only [List.map_cons, zv, zandL, zl_back] at q
  exact q
theorem wS_lor {x y : Int} (d : decode M.2.1 pc = .ok (.lor, 1)) (k : wqS b G R Z X M n0 n (pc + 1) ls (vL (zorL x y) :: st) h) : wqS b G R Z X M n0 n pc ls (vL y :: vL x :: st) h := by
  intro p e s m args below meth c H locs lr hX hH hl hn h1 h2 hb0
  refine lv_lor hX.1 hX.2.1 d ?_
  have q := k p e s m args below meth c H locs lr hX hH hl hn h1 (zcons (zl_rng _) (ztl (ztl h2))) hb0
  simp only [List.map_cons, zv, zorL, zl_back] at q
  exact q
theorem wS_isub {x y : Int} (hr : zII (x - y)) (d : decode M.2.1 pc = .ok (.isub, 1)) (k : wqS b G R Z X M n0 n (pc + 1) ls (vI (x - y) :: st) h) : wqS b G R Z X M n0 n pc ls (vI y :: vI x :: st) h := by
  intro p e s m args below meth c H locs lr hX hH hl hn h1 h2 hb0
  refine lv_isub hX.1 hX.2.1 d ?_
  rw [← Int32.ofInt_sub]
  exact k p e s m args below meth c H locs lr hX hH hl hn h1 (zcons hr (ztl (ztl h2))) hb0
theorem wS_dup {v : zV} (hv : zcat v = 1) (d : decode M.2.1 pc = .ok (.dup, 1)) (k : wqS b G R Z X M n0 n (pc + 1) ls (v :: v :: st) h) : wqS b G R Z X M n0 n pc ls (v :: st) h := by
  intro p e s m args below meth c H locs lr hX hH hl hn h1 h2 hb0
  exact lv_dup hX.1 hX.2.1 d (by rw [zcat_v]; exact hv) (k p e s m args below meth c H locs lr hX hH hl hn h1 (zcons (zhd h2) h2) hb0)
theorem wS_icmp_gt {x y : Int} {off : Int} (tgt : Nat) (ht : (pc : Int) + off = (tgt : Int)) (d : decode M.2.1 pc = .ok (.if_icmp .gt off, 3)) (kt : y < x → wqS b G R Z X M n0 n tgt ls st h) (kf : x ≤ y → wqS b G R Z X M n0 n (pc + 3) ls st h) : wqS b G R Z X M n0 n pc ls (vI y :: vI x :: st) h := by
  intro p e s m args below meth c H locs lr hX hH hl hn h1 h2 hb0
  exact lv_icmp_gt hX.1 hX.2.1 d ht (fun q => kt ((zi_lt (zhd h2) (zhd (ztl h2))).mp q) p e s m args below meth c H locs lr hX hH hl hn h1 (ztl (ztl h2)) hb0) (fun q => kf (Int.not_lt.mp (fun z => q ((zi_lt (zhd h2) (zhd (ztl h2))).mpr z))) p e s m args below meth c H locs lr hX hH hl hn h1 (ztl (ztl h2)) hb0)
theorem wS_icmp_eq {x y : Int} {off : Int} (tgt : Nat) (ht : (pc : Int) + off = (tgt : Int)) (d : decode M.2.1 pc = .ok (.if_icmp .eq off, 3)) (kt : x = y → wqS b G R Z X M n0 n tgt ls st h) (kf : x ≠ y → wqS b G R Z X M n0 n (pc + 3) ls st h) : wqS b G R Z X M n0 n pc ls (vI y :: vI x :: st) h := by
  intro p e s m args below meth c H locs lr hX hH hl hn h1 h2 hb0
  exact lv_icmp_eq hX.1 hX.2.1 d ht (fun q => kt ((zi_eq (zhd (ztl h2)) (zhd h2)).mp q) p e s m args below meth c H locs lr hX hH hl hn h1 (ztl (ztl h2)) hb0) (fun q => kf (fun z => q ((zi_eq (zhd (ztl h2)) (zhd h2)).mpr z)) p e s m args below meth c H locs lr hX hH hl hn h1 (ztl (ztl h2)) hb0)
theorem wS_goto {off : Int} (tgt : Nat) (ht : (pc : Int) + off = (tgt : Int)) (d : decode M.2.1 pc = .ok (.goto off, 3)) (k : wqS b G R Z X M n0 n tgt ls st h) : wqS b G R Z X M n0 n pc ls st h := by
  intro p e s m args below meth c H locs lr hX hH hl hn h1 h2 hb0
  exact lv_goto hX.1 hX.2.1 d ht (k p e s m args below meth c H locs lr hX hH hl hn h1 h2 hb0)
theorem wS_lcmp_eq {x y : Int} {off : Int} (tgt : Nat) (ht : ((pc + 1 : Nat) : Int) + off = (tgt : Int)) (d1 : decode M.2.1 pc = .ok (.lcmp, 1)) (d : decode M.2.1 (pc + 1) = .ok (.ifCond .eq off, 3)) (kt : x = y → wqS b G R Z X M n0 n tgt ls st h) (kf : x ≠ y → wqS b G R Z X M n0 n (pc + 1 + 3) ls st h) : wqS b G R Z X M n0 n pc ls (vL y :: vL x :: st) h := by
  intro p e s m args below meth c H locs lr hX hH hl hn h1 h2 hb0
  refine W.lcmp hX.1 hX.2.1 d1 ?_
  rw [zcmp_val (zhd (ztl h2)) (zhd h2)]
  refine lv_if_eq hX.1 hX.2.1 d ht (fun q => kt ?_ p e s m args below meth c H locs lr hX hH hl hn h1 (ztl (ztl h2)) hb0) (fun q => kf ?_ p e s m args below meth c H locs lr hX hH hl hn h1 (ztl (ztl h2)) hb0)
  · revert q
    by_cases a : y < x
    · rw [if_pos a]; intro q; first | omega | exact absurd q (by decide)
    · rw [if_neg a]
      by_cases b : x = y
      · rw [if_pos b]; intro q; first | omega | exact absurd q (by decide)
      · rw [if_neg b]; intro q; first | omega | exact absurd q (by decide)
  · revert q
    by_cases a : y < x
    · rw [if_pos a]; intro q; first | omega | exact absurd q (by decide)
    · rw [if_neg a]
      by_cases b : x = y
      · rw [if_pos b]; intro q; first | omega | exact absurd q (by decide)
      · rw [if_neg b]; intro q; first | omega | exact absurd q (by decide)
theorem wS_if_eq {x : Int} {off : Int} (tgt : Nat) (ht : (pc : Int) + off = (tgt : Int)) (d : decode M.2.1 pc = .ok (.ifCond .eq off, 3)) (kt : x = 0 → wqS b G R Z X M n0 n tgt ls st h) (kf : x ≠ 0 → wqS b G R Z X M n0 n (pc + 3) ls st h) : wqS b G R Z X M n0 n pc ls (vI x :: st) h := by
  intro p e s m args below meth c H locs lr hX hH hl hn h1 h2 hb0
  exact lv_if_eq hX.1 hX.2.1 d ht (fun q => kt ((zi_eq0 (zhd h2)).mp q) p e s m args below meth c H locs lr hX hH hl hn h1 (ztl h2) hb0) (fun q => kf (fun z => q ((zi_eq0 (zhd h2)).mpr z)) p e s m args below meth c H locs lr hX hH hl hn h1 (ztl h2) hb0)
theorem wS_tsw {x : Int} {dflt lo hi : Int} {offs : Array Int} {len : Nat} (td : Nat) (tgts : List Nat) (hd : (pc : Int) + dflt = (td : Int)) (ht : offs.toList.map (fun o => (pc : Int) + o) = tgts.map (fun (t : Nat) => (t : Int))) (hh : hi = lo + tgts.length - 1) (d : decode M.2.1 pc = .ok (.tableswitch dflt lo hi offs, len))
    (kd : x < lo ∨ hi < x → wqS b G R Z X M n0 n td ls st h) (kc : ∀ (j tg : Nat), tgts[j]? = some tg → x = lo + j → wqS b G R Z X M n0 n tg ls st h) : wqS b G R Z X M n0 n pc ls (vI x :: st) h := by
  intro p e s m args below meth c H locs lr hX hH hl hn h1 h2 hb0
  have ex := zi_of (zhd h2)
  by_cases ho : x < lo ∨ hi < x
  · exact lv_tableOut hX.1 hX.2.1 d (by rw [ex]; exact ho) hd (kd ho p e s m args below meth c H locs lr hX hH hl hn h1 (ztl h2) hb0)
  · have g1 : ¬ x < lo := fun q => ho (Or.inl q)
    have g2 : ¬ hi < x := fun q => ho (Or.inr q)
    have hj : (x - lo).toNat < tgts.length := by omega
    have e1 : (offs.toList.map (fun o => (pc : Int) + o))[(x - lo).toNat]? = some ((tgts[(x - lo).toNat] : Nat) : Int) := by rw [ht, List.getElem?_map, List.getElem?_eq_getElem hj]; rfl
    rw [List.getElem?_map] at e1
    obtain ⟨off, e2, e3⟩ := Option.map_eq_some_iff.mp e1
    refine lv_tableIn hX.1 hX.2.1 d (by rw [ex]; exact g1) (by rw [ex]; exact g2) (off := off) (tgt := tgts[(x - lo).toNat]) (by rw [ex, ← Array.getElem?_toList]; exact e2) e3 ?_
    exact kc (x - lo).toNat _ (List.getElem?_eq_getElem hj) (by omega) p e s m args below meth c H locs lr hX hH hl hn h1 (ztl h2) hb0
theorem wS_has {lr : Array Slot} {nL : Nat} {l : List (Nat × Value)} (hl : lv_has lr nL l) (hb0 : lr[0]? = some (.val (.ref b))) : lv_has lr nL (l ++ [(0, .ref b)]) :=
  ⟨hl.1, hl.2.1, fun q hq => by
    rcases List.mem_append.mp hq with w | w
    · exact hl.2.2 q w
    · rw [List.mem_singleton.mp w]; exact hb0⟩
theorem wS_fil {l : List (Nat × Value)} {i : Nat} {B : Nat} {v : zV} {nL : Nat} {lr : Array Slot} (hi : i ≠ 0) (h : lv_has lr nL ((i, zv B v) :: (l ++ [(0, Value.ref b)]).filter (fun q => !(q.1 == i) && !(q.1 + 1 == i && q.2.category == 2)))) : lv_has lr nL ((i, zv B v) :: l.filter (fun q => !(q.1 == i) && !(q.1 + 1 == i && q.2.category == 2))) ∧ lr[0]? = some (.val (.ref b)) := by
  rw [List.filter_append] at h
  refine ⟨⟨h.1, h.2.1, fun q hq => h.2.2 q ?_⟩, h.2.2 (0, Value.ref b) ?_⟩
  · rcases List.mem_cons.mp hq with w | w
    · rw [w]; exact List.mem_cons_self
    · exact List.mem_cons_of_mem _ (List.mem_append_left _ w)
  · refine List.mem_cons_of_mem _ (List.mem_append_right _ (List.mem_filter.mpr ⟨List.mem_singleton.mpr rfl, ?_⟩))
    have e : ((0 : Nat) == i) = false := by rw [beq_eq_false_iff_ne]; exact fun w => hi w.symm
    simp [e, Value.category]
theorem wS_istore_n {j : Nat} {x : Int} {ls' : zLs} {i : Fin 4} (j0 : j ≠ 0) (hj : (i : Nat) = j) (hn9 : j < M.2.2.1) (hl9 : zput1 j (vI x) ls = ls') (d : decode M.2.1 pc = .ok (.istore_n i, 1)) (k : wqS b G R Z X M n0 n (pc + 1) ls' st h) : wqS b G R Z X M n0 n pc ls (vI x :: st) h := by
  intro p e s m args below meth c H locs lr hX hH hl hn h1 h2 hb0
  subst hl9
  exact lv_istore_n hX.1 hX.2.1 d hj (wS_has hl hb0) hn9 rfl (fun lr' hl' => by
    obtain ⟨f1, f2⟩ := wS_fil (v := vI x) j0 hl'
    exact k p e s m args below meth c H locs lr' hX hH (zput1_has (v := vI x) f1) hn (zput1_ok h1 (zhd h2)) (ztl h2) f2)
theorem wS_astore_n {j : Nat} {x : Nat} {ls' : zLs} {i : Fin 4} (j0 : j ≠ 0) (hj : (i : Nat) = j) (hn9 : j < M.2.2.1) (hl9 : zput1 j (vR x) ls = ls') (d : decode M.2.1 pc = .ok (.astore_n i, 1)) (k : wqS b G R Z X M n0 n (pc + 1) ls' st h) : wqS b G R Z X M n0 n pc ls (vR x :: st) h := by
  intro p e s m args below meth c H locs lr hX hH hl hn h1 h2 hb0
  subst hl9
  exact lv_astore_n hX.1 hX.2.1 d hj (wS_has hl hb0) hn9 rfl (fun lr' hl' => by
    obtain ⟨f1, f2⟩ := wS_fil (v := vR x) j0 hl'
    exact k p e s m args below meth c H locs lr' hX hH (zput1_has (v := vR x) f1) hn (zput1_ok h1 (zhd h2)) (ztl h2) f2)
theorem wS_iinc {j : Nat} {x z y : Int} {ls' : zLs} (q : Nat) (j0 : j ≠ 0) (hq : ls[q]? = some (j, vI x)) (hy : x + z = y) (hr : zII y) (hn9 : j < M.2.2.1) (hl9 : zput1 j (vI y) ls = ls') (d : decode M.2.1 pc = .ok (.iinc j z, 3)) (k : wqS b G R Z X M n0 n (pc + 3) ls' st h) : wqS b G R Z X M n0 n pc ls st h := by
  intro p e s m args below meth c H locs lr hX hH hl hn h1 h2 hb0
  subst hl9
  have hq' : (zlm G.2.1 ls ++ [(0, Value.ref b)])[q]? = some (j, Value.int (Int32.ofInt x)) := by
    have e : (zlm G.2.1 ls)[q]? = some (j, Value.int (Int32.ofInt x)) := by rw [zlm, List.getElem?_map, hq]; rfl
    rw [List.getElem?_append_left (List.getElem?_eq_some_iff.mp e).1]
    exact e
  exact lv_iinc hX.1 hX.2.1 d (wS_has hl hb0) hq' (v := Int32.ofInt y) (by rw [← hy, Int32.ofInt_add]) hn9 rfl (fun lr' hl' => by
    obtain ⟨f1, f2⟩ := wS_fil (v := vI y) j0 hl'
    exact k p e s m args below meth c H locs lr' hX hH (zput1_has (v := vI y) f1) hn (zput1_ok h1 hr) h2 f2)
theorem zcall_goS {d' nE' : Nat} {Q' : Option zV → zHp → Prop} {p : Program} {e : Env} {s : State} {m : MethodId} {args : Array Value} {below : List Frame} {meth : Method} {c : Code} {H : Heap} {locs : List Loc} {lr : Array Slot} {stk : List Value} {a9 : Array Value}
    (hn' : n ≤ nE') (hX : zX G X M p s m args meth c) (hH : zH G n0 n h s H locs) (hl : lv_has lr M.2.2.1 (zlm G.2.1 ls)) (hn : n0 ≤ n) (h1 : ∀ q ∈ ls, zok q.2) (h2 : ∀ v ∈ st, zok v) (hb0 : lr[0]? = some (.val (.ref b)))
    (run : va_Run p G.1 e R s m args below meth c H locs (n - n0) (zSL n - zSL n0) (nE' - n) (zSL nE' - zSL n) (F0 m pc lr stk) (st.map (zv G.2.1)) (zQc G nE' Q' a9) (zA G))
    (k : ∀ (v : Option zV) (h' : zHp), Q' v h' → (∀ x ∈ v.toList, zok x) → wqS b G R Z X M n0 nE' (pc + 3) ls (v.toList ++ st) h') :
    W p G.1 e R s m args below meth c H locs (n - n0) (zSL n - zSL n0) (Z below args s) (F0 m pc lr stk) := by
  intro T hT X'
  obtain ⟨v, st₀, t, T', L, g0, X'', hL, e1, e2, ⟨v', h', hv, hq, hok, hHe, hF⟩, st'⟩ := run T hT X'
  cases hv
  have z1 := zSL_le hn
  have z2 := zSL_le hn'
  rw [show n - n0 + (nE' - n) = nE' - n0 by omega, show zSL n - zSL n0 + (zSL nE' - zSL n) = zSL nE' - zSL n0 by omega] at X''
  have hS := hH.2.1
  have kk := k v' h' hq hok p e s m args below meth c T'.heap (locs ++ L) lr hX ⟨by rw [e1]; exact hHe, ⟨Nat.le_trans hS.1 (by rw [e1]; rw [← g0]; exact hF.1), fun q w1 w2 => by
      rw [e1, hF.2 q (by rw [g0]; exact Nat.lt_of_lt_of_le w1 hS.1) w2, g0]
      exact hS.2.1 q w1 w2, fun q hq => by
      rcases List.mem_append.mp hq with w | w
      · exact hS.2.2 q w
      · exact hL q w⟩, hH.2.2⟩ hl (by omega) h1 (fun x hx => by
      rcases List.mem_append.mp hx with w | w
      · exact hok x w
      · exact h2 x w) hb0 T' rfl X''
  obtain ⟨t2, a1, b1⟩ := kk
  refine ⟨t2, st' t2 ?_, b1⟩
  have ef : ({ F0 m pc lr stk with pc := (F0 m pc lr stk).pc + 3, stack := (v'.map (zv G.2.1)).toList ++ st.map (zv G.2.1) } : JFrame) = F0 m (pc + 3) lr ((v'.toList ++ st).map (zv G.2.1)) := by
    cases v' <;> rfl
  rw [ef]
  exact a1
theorem wS_callV {idx nE' d' a c : Nat} {M' : zM} {T9 : u_T} {As stk : List zV} {Q' : Option zV → zHp → Prop} (kP : Nat) (hm : zMd M' kP) (hi : Cond.instanceMethod M'.1 ∈ zgw) (hse : Cond.selects M'.1.cls M'.1 M'.1 ∈ zgw) (hlk : Cond.methodLink M.1.cls idx M'.1 ∈ zgw) (hc : zcl[c]? = some (M'.1.cls, T9, zN c)) (ht : zT n a = (100 + c, zN c)) (hst : stk = As.reverse ++ vR a :: st) (hk : As.length = kP) (hsz : zsz (vR a :: As) ≤ M'.2.2.1) (hcat : (st.map zcat).sum ≤ 8) (hn' : n ≤ nE') (hR : zFit R n0 nE' d') (d : decode M.2.1 pc = .ok (.invokevirtual idx, 3))
    (hw : wp G d' n nE' M' n 0 (zar 0 (vR a :: As)) [] h Q') (k : ∀ (v : Option zV) (h' : zHp), Q' v h' → (∀ x ∈ v.toList, zok x) → wqS b G R Z X M n0 nE' (pc + 3) ls (v.toList ++ st) h') : wqS b G R Z X M n0 n pc ls stk h := by
  intro p e s m args below meth c9 H locs lr hX hH hl hn h1 h2 hb0
  subst hst
  have hok : ∀ v ∈ vR a :: As, zok v := zcons trivial (fun w hw => h2 w (List.mem_append_left _ (List.mem_reverse.mpr hw)))
  have hst : ∀ v ∈ st, zok v := fun w hw => h2 w (List.mem_append_right _ (List.mem_cons_of_mem _ hw))
  have hM := zMet hw hok hm.1 hsz
  obtain ⟨q1, q2, q3⟩ := zT_at ht (by simp only; omega)
  have he := zl_get (G := G) (h := h) q1 q2
  rw [q3, zent_o] at he
  have hK := hX.2.2.2.2.2.2.2.2.1
  refine zcall_goS (d' := d') (a9 := ((vR a :: As).map (zv G.2.1)).toArray) hn' hX hH hl hn h1 hst hb0 ?_ k
  exact va_runV (C := M'.1.cls) (b := G.2.1 + a) (As := As.map (zv G.2.1)) (rest := st.map (zv G.2.1)) (g := F0 m pc lr ((As.reverse ++ vR a :: st).map (zv G.2.1))) ⟨hX.1, hX.2.1, hX.2.2.2.2.1, hX.2.2.2.2.2.1, hX.2.2.2.2.2.2.1⟩ hM ⟨zcB hX.2.2.2.2.2.2.1 hm hlk hR, hX.2.2.2.2.2.2.1 _ hi, hX.2.2.2.2.2.2.1 _ hse⟩
    ⟨zPc_blind, va_recv hK.1 hH.1.1 hc he, fun U hU hW => ⟨rfl, by rw [hU]; exact hH.1, hK.moved hW⟩⟩ rfl (by rw [List.length_map]; exact hk) hl.1 (by simp [zv]) (lv_room (by
      have e : ((st.map (zv G.2.1)).map fun v => v.category) = st.map zcat := by rw [List.map_map]; exact List.map_congr_left (fun v _ => zcat_v _ v)
      rw [e]; exact hcat)) d (zfit_cells hR hn hn')
theorem wS_callI {idx nE' d' a : Nat} {M' : zM} {As stk : List zV} {Q' : Option zV → zHp → Prop} (kP : Nat) (hm : zMd M' kP) (hret : M'.2.2.2 = none) (hnm : M'.1.name = "<init>") (hi : Cond.instanceMethod M'.1 ∈ zgw) (hlk : Cond.methodLink M.1.cls idx M'.1 ∈ zgw) (hst : stk = As.reverse ++ vR a :: st) (hk : As.length = kP) (hsz : zsz (vR a :: As) ≤ M'.2.2.1) (hcat : (st.map zcat).sum ≤ 8) (hn' : n ≤ nE') (hR : zFit R n0 nE' d') (d : decode M.2.1 pc = .ok (.invokespecial idx, 3))
    (hw : wp G d' n nE' M' n 0 (zar 0 (vR a :: As)) [] h Q') (k : ∀ (v : Option zV) (h' : zHp), Q' v h' → (∀ x ∈ v.toList, zok x) → wqS b G R Z X M n0 nE' (pc + 3) ls (v.toList ++ st) h') : wqS b G R Z X M n0 n pc ls stk h := by
  intro p e s m args below meth c9 H locs lr hX hH hl hn h1 h2 hb0
  subst hst
  have hok : ∀ v ∈ vR a :: As, zok v := zcons trivial (fun w hw => h2 w (List.mem_append_left _ (List.mem_reverse.mpr hw)))
  have hst : ∀ v ∈ st, zok v := fun w hw => h2 w (List.mem_append_right _ (List.mem_cons_of_mem _ hw))
  have hM := zMet hw hok hm.1 hsz
  have hK := hX.2.2.2.2.2.2.2.2.1
  have cb := zcB (R := R) (n := n) hX.2.2.2.2.2.2.1 hm hlk hR
  rw [hret] at hM cb
  refine zcall_goS (d' := d') (a9 := ((vR a :: As).map (zv G.2.1)).toArray) hn' hX hH hl hn h1 hst hb0 ?_ k
  exact va_runI (b := G.2.1 + a) (As := As.map (zv G.2.1)) (rest := st.map (zv G.2.1)) (g := F0 m pc lr ((As.reverse ++ vR a :: st).map (zv G.2.1))) ⟨hX.1, hX.2.1, hX.2.2.2.2.1, hX.2.2.2.2.2.1, hX.2.2.2.2.2.2.1⟩ hM ⟨cb, hnm, hX.2.2.2.2.2.2.1 _ hi⟩
    ⟨zPc_blind, fun U hU hW => ⟨rfl, by rw [hU]; exact hH.1, hK.moved hW⟩⟩ rfl (by rw [List.length_map]; exact hk) hl.1 (by simp [zv]) (lv_room (by
      have e : ((st.map (zv G.2.1)).map fun v => v.category) = st.map zcat := by rw [List.map_map]; exact List.map_congr_left (fun v _ => zcat_v _ v)
      rw [e]; exact hcat)) d (zfit_cells hR hn hn')
theorem wS_new {c idx : Nat} {C : String} {T : u_T} (hcl : zCl c C T) (hty : ∀ j, j < zN c → zTyb (zty c j) = true) (hlk : Cond.classLink M.1.cls idx C ∈ zgw) (hins : Cond.instantiable C (zN c) ∈ zgw) (hini : Cond.initialized C ∈ zgw) (ht : zTAU (n + 1) = (100 + c, zN c)) (hR1 : n + 1 - n0 ≤ R.cells) (hR2 : zSL (n + 1) - zSL n0 ≤ R.slots) (d : decode M.2.1 pc = .ok (.new idx, 3)) (k : wqS b G R Z X M n0 (n + 1) (pc + 3) ls (vR (n + 1) :: st) h) : wqS b G R Z X M n0 n pc ls st h := by
  intro p e s m args below meth c9 H locs lr hX hH hl hn h1 h2 hb0
  have hts := hX.2.2.2.2.2.2.1
  have hK := hX.2.2.2.2.2.2.2.2.1.1
  have hKn := hK.1 c _ hcl.1
  have z0 := zSL_le hn
  have z1 : zSL (n + 1) = zSL n + zN c := by show zSL n + (zTAU (n + 1)).2 = _; rw [ht]
  refine W.newcK hX.1 hX.2.1 hX.2.2.2.2.2.1 (hts _ hlk) (hts _ hins) (hts _ hini) rfl d (by omega) (by omega) hKn.2.1 rfl fun H1 kC hkC e1 z2 o1 => ?_
  rw [show n - n0 + 1 = n + 1 - n0 by omega, show zSL n - zSL n0 + zN c = zSL (n + 1) - zSL n0 by omega]
  have hz : H.size = G.2.1 + (n + 1) := by have := hH.1.2.1; omega
  have kk := k p e s m args below meth c9 H1 locs lr hX (zH_push hH hn (by
      rw [ht, zent_o]
      rw [hz] at e1
      refine ⟨_, hcl.1, (u_born (zty c) hts hcl.2.1 hKn hkC e1 hcl.2.2.1).to (fun j hj => ?_)⟩
      rw [zd_zero (B := G.2.1) (a := n + 1) hH.1.2.2.1 (by omega) j (zTyb_of (hty j hj))]
      simp [vp_V, List.getD_eq_getElem?_getD, zfl_get hj]) z2 o1) hl (by omega) h1 (zcons trivial h2) hb0
  rw [hz]
  exact kk
theorem wS_st {st' : List zV} (e : st = st') (k : wqS b G R Z X M n0 n pc ls st' h) : wqS b G R Z X M n0 n pc ls st h := e ▸ k
/-- what the law knows of its script -/
def zXs (b L : Nat) (xs : Nat → Int32) : Array Value → State → Prop := fun args s => args = #[Value.ref b] ∧ va_X b L xs s s.heap ∧ b < s.heap.size
theorem wS_len {L : Nat} {xs : Nat → Int32} (hL : L ≤ 2560) (d0 : decode M.2.1 pc = .ok (.aload_n 0, 1)) (d1 : decode M.2.1 (pc + 1) = .ok (.arraylength, 1)) (k : wqS b G R Z (zXs b L xs) M 0 n (pc + 1 + 1) ls (vI (L : Int) :: st) h) : wqS b G R Z (zXs b L xs) M 0 n pc ls st h := by
  intro p e s m args below meth c H locs lr hX hH hl hn h1 h2 hb0
  obtain ⟨-, x1, x2⟩ := hX.2.2.2.2.2.2.2.2.2
  have x3 := hH.2.2
  refine lv_aload_n hX.1 hX.2.1 d0 rfl hb0 ?_
  refine va_slen hX.1 hX.2.1 x1 x2 (show ¬ G.2.1 < b by omega) hH.2.1 d1 ?_
  rw [← zi_ofNat]
  exact k p e s m args below meth c H locs lr hX hH hl hn h1 (zcons (show zII (L : Int) from ⟨by omega, by omega⟩) h2) hb0
theorem wS_ld0 {L : Nat} {xs : Nat → Int32} {i : Int} (q : Nat) (hL : L ≤ 2560) (hq : ls[q]? = some (3, vI i)) (i0 : 0 ≤ i) (i1 : i < L) (d0 : decode M.2.1 pc = .ok (.aload_n 0, 1)) (d1 : decode M.2.1 (pc + 1) = .ok (.iload_n 3, 1)) (d2 : decode M.2.1 (pc + 1 + 1) = .ok (.iaload, 1)) (k : wqS b G R Z (zXs b L xs) M 0 n (pc + 1 + 1 + 1) ls (vI (xs i.toNat).toInt :: st) h) : wqS b G R Z (zXs b L xs) M 0 n pc ls st h := by
  intro p e s m args below meth c H locs lr hX hH hl hn h1 h2 hb0
  obtain ⟨-, x1, x2⟩ := hX.2.2.2.2.2.2.2.2.2
  have x3 := hH.2.2
  have hi : zII i := ⟨by omega, by omega⟩
  refine lv_aload_n hX.1 hX.2.1 d0 rfl hb0 ?_
  refine lv_iload_n hX.1 hX.2.1 d1 rfl (zlm_at hl q hq) ?_
  refine va_sld hX.1 hX.2.1 x1 x2 (show ¬ G.2.1 < b by omega) hH.2.1 (zi_in hi i0 i1) d2 ?_
  have kk := k p e s m args below meth c H locs lr hX hH hl hn h1 (zcons (zi_rng _) h2) hb0
  simp only [List.map_cons, zv, zi_back] at kk
  rw [zi_nat hi]
  exact kk
theorem wS_ld {L : Nat} {xs : Nat → Int32} {i k9 : Int} (q : Nat) (hL : L ≤ 2560) (hq : ls[q]? = some (3, vI i)) (i0 : 0 ≤ i + k9) (i1 : i + k9 < L) (d0 : decode M.2.1 pc = .ok (.aload_n 0, 1)) (d1 : decode M.2.1 (pc + 1) = .ok (.iload_n 3, 1)) (d2 : decode M.2.1 (pc + 1 + 1) = .ok (.iconst k9, 1)) (d3 : decode M.2.1 (pc + 1 + 1 + 1) = .ok (.iadd, 1)) (d4 : decode M.2.1 (pc + 1 + 1 + 1 + 1) = .ok (.iaload, 1)) (k : wqS b G R Z (zXs b L xs) M 0 n (pc + 1 + 1 + 1 + 1 + 1) ls (vI (xs (i + k9).toNat).toInt :: st) h) : wqS b G R Z (zXs b L xs) M 0 n pc ls st h := by
  intro p e s m args below meth c H locs lr hX hH hl hn h1 h2 hb0
  obtain ⟨-, x1, x2⟩ := hX.2.2.2.2.2.2.2.2.2
  have x3 := hH.2.2
  have hi : zII (i + k9) := ⟨by omega, by omega⟩
  refine lv_aload_n hX.1 hX.2.1 d0 rfl hb0 ?_
  refine lv_iload_n hX.1 hX.2.1 d1 rfl (zlm_at hl q hq) ?_
  refine lv_iconst hX.1 hX.2.1 d2 rfl ?_
  refine lv_iadd hX.1 hX.2.1 d3 ?_
  show W _ _ _ _ _ _ _ _ _ _ _ _ _ _ _ (F0 m _ lr (Value.int (Int32.ofInt i + Int32.ofInt k9) :: _))
  rw [← Int32.ofInt_add]
  refine va_sld hX.1 hX.2.1 x1 x2 (show ¬ G.2.1 < b by omega) hH.2.1 (zi_in hi i0 i1) d4 ?_
  have kk := k p e s m args below meth c H locs lr hX hH hl hn h1 (zcons (zi_rng _) h2) hb0
  simp only [List.map_cons, zv, zi_back] at kk
  rw [zi_nat hi]
  exact kk
/-- a boolean out of a number -/
theorem wS_bool {x : Int} (d0 : decode M.2.1 pc = .ok (.ifCond .eq 7, 3)) (d1 : decode M.2.1 (pc + 3) = .ok (.iconst 1, 1)) (d2 : decode M.2.1 (pc + 3 + 1) = .ok (.goto 4, 3)) (d3 : decode M.2.1 (pc + 7) = .ok (.iconst 0, 1)) (k : wqS b G R Z X M n0 n (pc + 8) ls (vI (if x = 0 then 0 else 1) :: st) h) : wqS b G R Z X M n0 n pc ls (vI x :: st) h := by
  refine wS_if_eq (pc + 7) (by omega) d0 (fun c => ?_) (fun c => ?_)
  · refine wS_iconst (z := 0) (zlit rfl) d3 ?_
    rw [if_pos c] at k; exact k
  · refine wS_iconst (z := 1) (zlit rfl) d1 ?_
    refine wS_goto (pc + 8) (by omega) d2 ?_
    rw [if_neg c] at k; exact k
end LAWRULES
