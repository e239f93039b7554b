theorem zi_of {z : Int} (h : zII z) : (Int32.ofInt z).toInt = z := by
  have h1 := h.1
  have h2 := h.2
  rw [Int32.toInt_ofInt]
  show z.bmod (2 ^ 32) = z
  rw [Int.bmod_eq_of_le (by omega) (by omega)]
theorem zl_of {z : Int} (h : zIL z) : (Int64.ofInt z).toInt = z := by
  have h1 := h.1
  have h2 := h.2
  rw [Int64.toInt_ofInt]
  show z.bmod (2 ^ 64) = z
  rw [Int.bmod_eq_of_le (by omega) (by omega)]
theorem zi_rng (x : Int32) : zII x.toInt := by
  have h1 := Int32.le_toInt x
  have h2 := Int32.toInt_lt x
  exact ⟨by omega, by omega⟩
theorem zl_rng (x : Int64) : zIL x.toInt := by
  have h1 := Int64.le_toInt x
  have h2 := Int64.toInt_lt x
  exact ⟨by omega, by omega⟩
theorem zi_lt {x y : Int} (hx : zII x) (hy : zII y) : Int32.ofInt x < Int32.ofInt y ↔ x < y := by rw [Int32.lt_iff_toInt_lt, zi_of hx, zi_of hy]
theorem zi_le {x y : Int} (hx : zII x) (hy : zII y) : Int32.ofInt x ≤ Int32.ofInt y ↔ x ≤ y := by rw [Int32.le_iff_toInt_le, zi_of hx, zi_of hy]
theorem zi_eq {x y : Int} (hx : zII x) (hy : zII y) : Int32.ofInt x = Int32.ofInt y ↔ x = y := by rw [← Int32.toInt_inj, zi_of hx, zi_of hy]
theorem zl_lt' {x y : Int} (hx : zIL x) (hy : zIL y) : Int64.ofInt x < Int64.ofInt y ↔ x < y := by rw [Int64.lt_iff_toInt_lt, zl_of hx, zl_of hy]
theorem zl_eq {x y : Int} (hx : zIL x) (hy : zIL y) : Int64.ofInt x = Int64.ofInt y ↔ x = y := by rw [← Int64.toInt_inj, zl_of hx, zl_of hy]
theorem zII0 : zII 0 := ⟨by omega, by omega⟩
theorem zi_0 : Int32.ofInt 0 = 0 := rfl
theorem zi_lt0 {x : Int} (hx : zII x) : Int32.ofInt x < 0 ↔ x < 0 := by rw [← zi_0]; exact zi_lt hx zII0
theorem zi_le0 {x : Int} (hx : zII x) : Int32.ofInt x ≤ 0 ↔ x ≤ 0 := by rw [← zi_0]; exact zi_le hx zII0
theorem zi_ge0 {x : Int} (hx : zII x) : 0 ≤ Int32.ofInt x ↔ 0 ≤ x := by rw [← zi_0]; exact zi_le zII0 hx
theorem zi_gt0 {x : Int} (hx : zII x) : 0 < Int32.ofInt x ↔ 0 < x := by rw [← zi_0]; exact zi_lt zII0 hx
theorem zi_eq0 {x : Int} (hx : zII x) : Int32.ofInt x = 0 ↔ x = 0 := by rw [← zi_0]; exact zi_eq hx zII0
theorem zi_nat {x : Int} (hx : zII x) : (Int32.ofInt x).toNatClampNeg = x.toNat := by
  show (Int32.ofInt x).toInt.toNat = _
  rw [zi_of hx]
theorem zi_in {x : Int} {n : Nat} (hx : zII x) (h0 : 0 ≤ x) (h1 : x < n) : vp_in (Int32.ofInt x) n := by
  rw [vp_in_iff, zi_of hx]
  exact ⟨h0, h1⟩
def zxor (x y : Int) : Int := (Int32.ofInt x ^^^ Int32.ofInt y).toInt
def zand (x y : Int) : Int := (Int32.ofInt x &&& Int32.ofInt y).toInt
def zandL (x y : Int) : Int := (Int64.ofInt x &&& Int64.ofInt y).toInt
def zorL (x y : Int) : Int := (Int64.ofInt x ||| Int64.ofInt y).toInt
def zshl (x y : Int) : Int := (Int64.ofInt x <<< ((Int32.ofInt y).toInt64 &&& 63)).toInt
def zshr (x y : Int) : Int := (Int64.ofInt x >>> ((Int32.ofInt y).toInt64 &&& 63)).toInt
def w32 (z : Int) : Int := z.bmod (2 ^ 32)
def w64 (z : Int) : Int := z.bmod (2 ^ 64)
theorem w32_of {z : Int} (h : zII z) : w32 z = z := by
  unfold w32
  rw [Int.bmod_eq_of_le (by have := h.1; omega) (by have := h.2; omega)]
theorem w64_of {z : Int} (h : zIL z) : w64 z = z := by
  unfold w64
  rw [Int.bmod_eq_of_le (by have := h.1; omega) (by have := h.2; omega)]
theorem w32_I (z : Int) : Int32.ofInt (w32 z) = Int32.ofInt z := by
  apply Int32.toInt_inj.mp
  rw [Int32.toInt_ofInt, Int32.toInt_ofInt, w32, Int.bmod_bmod]
theorem w64_L (z : Int) : Int64.ofInt (w64 z) = Int64.ofInt z := by
  apply Int64.toInt_inj.mp
  rw [Int64.toInt_ofInt, Int64.toInt_ofInt, w64, Int.bmod_bmod]
theorem w32_r (z : Int) : zII (w32 z) := by
  have h := zi_rng (Int32.ofInt z)
  rw [Int32.toInt_ofInt] at h
  exact h
theorem w64_r (z : Int) : zIL (w64 z) := by
  have h := zl_rng (Int64.ofInt z)
  rw [Int64.toInt_ofInt] at h
  exact h
theorem zi_back (x : Int32) : Int32.ofInt x.toInt = x := Int32.ofInt_toInt x
theorem zl_back (x : Int64) : Int64.ofInt x.toInt = x := Int64.ofInt_toInt x
theorem z_tdiv {x y : Int} (h0 : 0 < y) : (0 ≤ x → 0 ≤ x.tdiv y ∧ x.tdiv y ≤ x) ∧ (x < 0 → x ≤ x.tdiv y ∧ x.tdiv y ≤ 0) := by
  have h2 : (x.tdiv y).natAbs ≤ x.natAbs := by rw [Int.natAbs_tdiv]; exact Nat.div_le_self _ _
  constructor
  · intro h
    have h3 : 0 ≤ x.tdiv y := Int.tdiv_nonneg h (Int.le_of_lt h0)
    omega
  · intro h
    have h3 : 0 ≤ (-x).tdiv y := Int.tdiv_nonneg (by omega) (Int.le_of_lt h0)
    rw [Int.neg_tdiv] at h3
    omega
theorem zi_div {x y : Int} (hx : zII x) (hy : zII y) (h0 : 0 < y) : Int32.ofInt x / Int32.ofInt y = Int32.ofInt (x.tdiv y) ∧ zII (x.tdiv y) := by
  have e : (Int32.ofInt x / Int32.ofInt y).toInt = (x.tdiv y).bmod (2 ^ 32) := by rw [Int32.toInt_div, zi_of hx, zi_of hy]
  have hr : zII (x.tdiv y) := by
    have h2 := z_tdiv (x := x) h0
    have := hx.1
    have := hx.2
    exact ⟨by omega, by omega⟩
  refine ⟨?_, hr⟩
  apply Int32.toInt_inj.mp
  rw [e, Int32.toInt_ofInt]
theorem zl_div {x y : Int} (hx : zIL x) (hy : zIL y) (h0 : 0 < y) : Int64.ofInt x / Int64.ofInt y = Int64.ofInt (x.tdiv y) ∧ zIL (x.tdiv y) := by
  have e : (Int64.ofInt x / Int64.ofInt y).toInt = (x.tdiv y).bmod (2 ^ 64) := by rw [Int64.toInt_div, zl_of hx, zl_of hy]
  have hr : zIL (x.tdiv y) := by
    have h2 := z_tdiv (x := x) h0
    have := hx.1
    have := hx.2
    exact ⟨by omega, by omega⟩
  refine ⟨?_, hr⟩
  apply Int64.toInt_inj.mp
  rw [e, Int64.toInt_ofInt]
theorem zi_rem {x y : Int} (hx : zII x) (hy : zII y) (h0 : 0 < y) : Int32.ofInt x - Int32.ofInt x / Int32.ofInt y * Int32.ofInt y = Int32.ofInt (x.tmod y) ∧ zII (x.tmod y) := by
  have hd := (zi_div hx hy h0).1
  have hr : zII (x.tmod y) := by
    have h2 : (x.tmod y).natAbs ≤ x.natAbs := by rw [Int.natAbs_tmod]; exact Nat.mod_le _ _
    have h3 : 0 ≤ x → 0 ≤ x.tmod y := fun h => Int.tmod_nonneg y h
    have h4 : x < 0 → 0 ≤ (-x).tmod y := fun h => Int.tmod_nonneg y (by omega)
    rw [Int.neg_tmod] at h4
    have := hx.1
    have := hx.2
    exact ⟨by omega, by omega⟩
  refine ⟨?_, hr⟩
  rw [hd, ← Int32.ofInt_mul, ← Int32.ofInt_sub, Int.tmod_def, Int.mul_comm]
theorem zi_i2l {x : Int} (hx : zII x) : (Int32.ofInt x).toInt64 = Int64.ofInt x ∧ zIL x := by
  have hl : zIL x := ⟨by have := hx.1; omega, by have := hx.2; omega⟩
  refine ⟨?_, hl⟩
  apply Int64.toInt_inj.mp
  rw [Int32.toInt_toInt64, zi_of hx, zl_of hl]
theorem zl_l2i {x : Int} (hx : zIL x) : (Int64.ofInt x).toInt32 = Int32.ofInt (w32 x) := by
  rw [w32_I]
  apply Int32.toInt_inj.mp
  rw [Int64.toInt_toInt32, zl_of hx, Int32.toInt_ofInt]
theorem zcons {v : zV} {st : List zV} (h : zok v) (hs : ∀ w ∈ st, zok w) : ∀ w ∈ v :: st, zok w := List.forall_mem_cons.mpr ⟨h, hs⟩
theorem zhd {v : zV} {st : List zV} (hs : ∀ w ∈ v :: st, zok w) : zok v := (List.forall_mem_cons.mp hs).1
theorem ztl {v : zV} {st : List zV} (hs : ∀ w ∈ v :: st, zok w) : ∀ w ∈ st, zok w := (List.forall_mem_cons.mp hs).2
theorem zlm_at {B : Nat} {ls : zLs} {lr : Array Slot} {nL : Nat} (h : lv_has lr nL (zlm B ls)) (k : Nat) {i : Nat} {v : zV} (hk : ls[k]? = some (i, v)) : lr[i]? = some (.val (zv B v)) := by
  refine h.2.2 (i, zv B v) ?_
  exact List.mem_map.mpr ⟨(i, v), List.mem_of_getElem? hk, rfl⟩
theorem zls_ok {ls : zLs} (h : ∀ q ∈ ls, zok q.2) {k i : Nat} {v : zV} (hk : ls[k]? = some (i, v)) : zok v := h (i, v) (List.mem_of_getElem? hk)
def zins (q : Nat × zV) : zLs → zLs
  | [] => [q]
  | r :: rs => if q.1 < r.1 then q :: r :: rs else r :: zins q rs
theorem zins_mem {q x : Nat × zV} : ∀ {l : zLs}, x ∈ zins q l → x = q ∨ x ∈ l
  | [], h => by
    rw [zins] at h
    exact Or.inl (List.mem_singleton.mp h)
  | r :: rs, h => by
    rw [zins] at h
    split at h
    · rcases List.mem_cons.mp h with h | h
      · exact Or.inl h
      · exact Or.inr h
    · rcases List.mem_cons.mp h with h | h
      · exact Or.inr (by rw [h]; exact List.mem_cons_self)
      · rcases zins_mem h with h | h
        · exact Or.inl h
        · exact Or.inr (List.mem_cons_of_mem _ h)
def zkeep1 (i : Nat) (ls : zLs) : zLs := ls.filter (fun q => !(q.1 == i) && !(q.1 + 1 == i && zcat q.2 == 2))
def zkeep2 (i : Nat) (ls : zLs) : zLs := ls.filter (fun q => !(q.1 == i) && (!(q.1 == i + 1) && !(q.1 + 1 == i && zcat q.2 == 2)))
def zput1 (i : Nat) (v : zV) (ls : zLs) : zLs := zins (i, v) (zkeep1 i ls)
def zput2 (i : Nat) (v : zV) (ls : zLs) : zLs := zins (i, v) (zkeep2 i ls)
theorem zput1_has {B : Nat} {ls : zLs} {i nL : Nat} {v : zV} {lr : Array Slot} (h : lv_has lr nL ((i, zv B v) :: (zlm B ls).filter (fun q => !(q.1 == i) && !(q.1 + 1 == i && q.2.category == 2)))) : lv_has lr nL (zlm B (zput1 i v ls)) := by
  refine ⟨h.1, h.2.1, fun q hq => h.2.2 q ?_⟩
  obtain ⟨x, hx, rfl⟩ := List.mem_map.mp hq
  rcases zins_mem hx with rfl | hx
  · exact List.mem_cons_self
  · obtain ⟨h1, h2⟩ := List.mem_filter.mp hx
    refine List.mem_cons_of_mem _ (List.mem_filter.mpr ⟨List.mem_map.mpr ⟨x, h1, rfl⟩, ?_⟩)
    simpa [zcat_v] using h2
theorem zput2_has {B : Nat} {ls : zLs} {i nL : Nat} {v : zV} {lr : Array Slot} (h : lv_has lr nL ((i, zv B v) :: (zlm B ls).filter (fun q => !(q.1 == i) && (!(q.1 == i + 1) && !(q.1 + 1 == i && q.2.category == 2))))) : lv_has lr nL (zlm B (zput2 i v ls)) := by
  refine ⟨h.1, h.2.1, fun q hq => h.2.2 q ?_⟩
  obtain ⟨x, hx, rfl⟩ := List.mem_map.mp hq
  rcases zins_mem hx with rfl | hx
  · exact List.mem_cons_self
  · obtain ⟨h1, h2⟩ := List.mem_filter.mp hx
    refine List.mem_cons_of_mem _ (List.mem_filter.mpr ⟨List.mem_map.mpr ⟨x, h1, rfl⟩, ?_⟩)
    simpa [zcat_v] using h2
theorem zput1_ok {ls : zLs} {i : Nat} {v : zV} (h : ∀ q ∈ ls, zok q.2) (hv : zok v) : ∀ q ∈ zput1 i v ls, zok q.2 := by
  intro q hq
  rcases zins_mem hq with rfl | hq
  · exact hv
  · exact h q (List.mem_filter.mp hq).1
theorem zput2_ok {ls : zLs} {i : Nat} {v : zV} (h : ∀ q ∈ ls, zok q.2) (hv : zok v) : ∀ q ∈ zput2 i v ls, zok q.2 := by
  intro q hq
  rcases zins_mem hq with rfl | hq
  · exact hv
  · exact h q (List.mem_filter.mp hq).1
section RULES
variable {G : zG} {R : Room} {Z : List Frame → Array Value → State → State → Prop} {X : Array Value → State → Prop} {M : zM} {n0 n pc : Nat} {ls : zLs} {st : List zV} {h : zHp}
theorem wq_sub {ls' : zLs} (hs : ∀ q ∈ ls', q ∈ ls) (k : wq G R Z X M n0 n pc ls' st h) : wq G R Z X M n0 n pc ls st h := by
  intro p e s m args below meth c H locs lr hX hH hl hn h1 h2
  refine k p e s m args below meth c H locs lr hX hH ⟨hl.1, hl.2.1, fun q hq => hl.2.2 q ?_⟩ hn (fun q hq => h1 q (hs q hq)) h2
  obtain ⟨x, hx, rfl⟩ := List.mem_map.mp hq
  exact List.mem_map.mpr ⟨x, hs x hx, rfl⟩
theorem wq_iconst {z : Int} (hz : zII z) (d : decode M.2.1 pc = .ok (.iconst z, 1)) (k : wq G R Z X M n0 n (pc + 1) ls (vI z :: st) h) : wq G R Z X M n0 n pc ls (st) h := by
  intro p e s m args below meth c H locs lr hX hH hl hn h1 h2
  exact lv_iconst hX.1 hX.2.1 d rfl (k p e s m args below meth c H locs lr hX hH hl hn h1 (zcons hz h2))
theorem wq_bipush {z : Int} (hz : zII z) (e9 : (Int8.ofInt z).toInt32 = Int32.ofInt z) (d : decode M.2.1 pc = .ok (.bipush z, 2)) (k : wq G R Z X M n0 n (pc + 2) ls (vI z :: st) h) : wq G R Z X M n0 n pc ls (st) h := by
  intro p e s m args below meth c H locs lr hX hH hl hn h1 h2
  exact lv_bipush hX.1 hX.2.1 d e9 (k p e s m args below meth c H locs lr hX hH hl hn h1 (zcons hz h2))
theorem wq_sipush {z : Int} (hz : zII z) (e9 : (Int16.ofInt z).toInt32 = Int32.ofInt z) (d : decode M.2.1 pc = .ok (.sipush z, 3)) (k : wq G R Z X M n0 n (pc + 3) ls (vI z :: st) h) : wq G R Z X M n0 n pc ls (st) h := by
  intro p e s m args below meth c H locs lr hX hH hl hn h1 h2
  exact lv_sipush hX.1 hX.2.1 d e9 (k p e s m args below meth c H locs lr hX hH hl hn h1 (zcons hz h2))
theorem wq_lconst {i : Fin 2} {z : Int} (hz : zIL z) (e9 : Int64.ofNat (i : Nat) = Int64.ofInt z) (d : decode M.2.1 pc = .ok (.lconst i, 1)) (k : wq G R Z X M n0 n (pc + 1) ls (vL z :: st) h) : wq G R Z X M n0 n pc ls (st) h := by
  intro p e s m args below meth c H locs lr hX hH hl hn h1 h2
  exact lv_lconst hX.1 hX.2.1 d e9 (k p e s m args below meth c H locs lr hX hH hl hn h1 (zcons hz h2))
theorem wq_ldc {i : Nat} {z : Int} (hz : zII z) (hw : Cond.constant M.1.cls i (Int32.ofInt z) ∈ zgw) (d : decode M.2.1 pc = .ok (.ldc i, 2)) (k : wq G R Z X M n0 n (pc + 2) ls (vI z :: st) h) : wq G R Z X M n0 n pc ls (st) h := by
  intro p e s m args below meth c H locs lr hX hH hl hn h1 h2
  exact lv_ldc hX.1 hX.2.1 hX.2.2.2.2.2.1 (hX.2.2.2.2.2.2.1 _ hw) d (k p e s m args below meth c H locs lr hX hH hl hn h1 (zcons hz h2))
theorem wq_ldc_w {i : Nat} {z : Int} (hz : zII z) (hw : Cond.constant M.1.cls i (Int32.ofInt z) ∈ zgw) (d : decode M.2.1 pc = .ok (.ldc_w i, 3)) (k : wq G R Z X M n0 n (pc + 3) ls (vI z :: st) h) : wq G R Z X M n0 n pc ls (st) h := by
  intro p e s m args below meth c H locs lr hX hH hl hn h1 h2
  exact lv_ldcw hX.1 hX.2.1 hX.2.2.2.2.2.1 (hX.2.2.2.2.2.2.1 _ hw) d (k p e s m args below meth c H locs lr hX hH hl hn h1 (zcons hz h2))
theorem wq_ldc2_w {i : Nat} {z : Int} (hz : zIL z) (hw : Cond.constantLong M.1.cls i (Int64.ofInt z) ∈ zgw) (d : decode M.2.1 pc = .ok (.ldc2_w i, 3)) (k : wq G R Z X M n0 n (pc + 3) ls (vL z :: st) h) : wq G R Z X M n0 n pc ls (st) h := by
  intro p e s m args below meth c H locs lr hX hH hl hn h1 h2
  exact lv_ldc2 hX.1 hX.2.1 hX.2.2.2.2.2.1 (hX.2.2.2.2.2.2.1 _ hw) d (k p e s m args below meth c H locs lr hX hH hl hn h1 (zcons hz h2))
theorem wq_iload_n {i : Fin 4} {j : Nat} {x : Int} (q : Nat) (hj : (i : Nat) = j) (hq : ls[q]? = some (j, vI x)) (d : decode M.2.1 pc = .ok (.iload_n i, 1)) (k : wq G R Z X M n0 n (pc + 1) ls (vI x :: st) h) : wq G R Z X M n0 n pc ls (st) h := by
  intro p e s m args below meth c H locs lr hX hH hl hn h1 h2
  exact lv_iload_n hX.1 hX.2.1 d hj (zlm_at hl q hq) (k p e s m args below meth c H locs lr hX hH hl hn h1 (zcons (zls_ok h1 hq) h2))
theorem wq_iload {j : Nat} {x : Int} (q : Nat) (hq : ls[q]? = some (j, vI x)) (d : decode M.2.1 pc = .ok (.iload j, 2)) (k : wq G R Z X M n0 n (pc + 2) ls (vI x :: st) h) : wq G R Z X M n0 n pc ls (st) h := by
  intro p e s m args below meth c H locs lr hX hH hl hn h1 h2
  exact lv_iload hX.1 hX.2.1 d (zlm_at hl q hq) (k p e s m args below meth c H locs lr hX hH hl hn h1 (zcons (zls_ok h1 hq) h2))
theorem wq_istore_n {j : Nat} {x : Int} {ls' : zLs} {i : Fin 4} (hj : (i : Nat) = j) (hn9 : j < M.2.2.1) (hl9 : zput1 j (vI x) ls = ls') (d : decode M.2.1 pc = .ok (.istore_n i, 1)) (k : wq G R Z X M n0 n (pc + 1) ls' st h) : wq G R Z X M n0 n pc ls (vI x :: st) h := by
  intro p e s m args below meth c H locs lr hX hH hl hn h1 h2
  subst hl9
  exact lv_istore_n hX.1 hX.2.1 d hj hl hn9 rfl (fun lr' hl' => k p e s m args below meth c H locs lr' hX hH (zput1_has (v := vI x) hl') hn (zput1_ok h1 (zhd h2)) (ztl h2))
theorem wq_istore {j : Nat} {x : Int} {ls' : zLs}  (hn9 : j < M.2.2.1) (hl9 : zput1 j (vI x) ls = ls') (d : decode M.2.1 pc = .ok (.istore j, 2)) (k : wq G R Z X M n0 n (pc + 2) ls' st h) : wq G R Z X M n0 n pc ls (vI x :: st) h := by
  intro p e s m args below meth c H locs lr hX hH hl hn h1 h2
  subst hl9
  exact lv_istore hX.1 hX.2.1 d hl hn9 rfl (fun lr' hl' => k p e s m args below meth c H locs lr' hX hH (zput1_has (v := vI x) hl') hn (zput1_ok h1 (zhd h2)) (ztl h2))
theorem wq_lload_n {i : Fin 4} {j : Nat} {x : Int} (q : Nat) (hj : (i : Nat) = j) (hq : ls[q]? = some (j, vL x)) (d : decode M.2.1 pc = .ok (.lload_n i, 1)) (k : wq G R Z X M n0 n (pc + 1) ls (vL x :: st) h) : wq G R Z X M n0 n pc ls (st) h := by
  intro p e s m args below meth c H locs lr hX hH hl hn h1 h2
  exact lv_lload_n hX.1 hX.2.1 d hj (zlm_at hl q hq) (k p e s m args below meth c H locs lr hX hH hl hn h1 (zcons (zls_ok h1 hq) h2))
theorem wq_lload {j : Nat} {x : Int} (q : Nat) (hq : ls[q]? = some (j, vL x)) (d : decode M.2.1 pc = .ok (.lload j, 2)) (k : wq G R Z X M n0 n (pc + 2) ls (vL x :: st) h) : wq G R Z X M n0 n pc ls (st) h := by
  intro p e s m args below meth c H locs lr hX hH hl hn h1 h2
  exact lv_lload hX.1 hX.2.1 d (zlm_at hl q hq) (k p e s m args below meth c H locs lr hX hH hl hn h1 (zcons (zls_ok h1 hq) h2))
theorem wq_lstore_n {j : Nat} {x : Int} {ls' : zLs} {i : Fin 4} (hj : (i : Nat) = j) (hn9 : j + 1 < M.2.2.1) (hl9 : zput2 j (vL x) ls = ls') (d : decode M.2.1 pc = .ok (.lstore_n i, 1)) (k : wq G R Z X M n0 n (pc + 1) ls' st h) : wq G R Z X M n0 n pc ls (vL x :: st) h := by
  intro p e s m args below meth c H locs lr hX hH hl hn h1 h2
  subst hl9
  exact lv_lstore_n hX.1 hX.2.1 d hj hl hn9 rfl (fun lr' hl' => k p e s m args below meth c H locs lr' hX hH (zput2_has (v := vL x) hl') hn (zput2_ok h1 (zhd h2)) (ztl h2))
theorem wq_lstore {j : Nat} {x : Int} {ls' : zLs}  (hn9 : j + 1 < M.2.2.1) (hl9 : zput2 j (vL x) ls = ls') (d : decode M.2.1 pc = .ok (.lstore j, 2)) (k : wq G R Z X M n0 n (pc + 2) ls' st h) : wq G R Z X M n0 n pc ls (vL x :: st) h := by
  intro p e s m args below meth c H locs lr hX hH hl hn h1 h2
  subst hl9
  exact lv_lstore hX.1 hX.2.1 d hl hn9 rfl (fun lr' hl' => k p e s m args below meth c H locs lr' hX hH (zput2_has (v := vL x) hl') hn (zput2_ok h1 (zhd h2)) (ztl h2))
theorem wq_aload_n {i : Fin 4} {j : Nat} {x : Nat} (q : Nat) (hj : (i : Nat) = j) (hq : ls[q]? = some (j, vR x)) (d : decode M.2.1 pc = .ok (.aload_n i, 1)) (k : wq G R Z X M n0 n (pc + 1) ls (vR x :: st) h) : wq G R Z X M n0 n pc ls (st) h := by
  intro p e s m args below meth c H locs lr hX hH hl hn h1 h2
  exact lv_aload_n hX.1 hX.2.1 d hj (zlm_at hl q hq) (k p e s m args below meth c H locs lr hX hH hl hn h1 (zcons (zls_ok h1 hq) h2))
theorem wq_aload {j : Nat} {x : Nat} (q : Nat) (hq : ls[q]? = some (j, vR x)) (d : decode M.2.1 pc = .ok (.aload j, 2)) (k : wq G R Z X M n0 n (pc + 2) ls (vR x :: st) h) : wq G R Z X M n0 n pc ls (st) h := by
  intro p e s m args below meth c H locs lr hX hH hl hn h1 h2
  exact lv_aload hX.1 hX.2.1 d (zlm_at hl q hq) (k p e s m args below meth c H locs lr hX hH hl hn h1 (zcons (zls_ok h1 hq) h2))
theorem wq_astore_n {j : Nat} {x : Nat} {ls' : zLs} {i : Fin 4} (hj : (i : Nat) = j) (hn9 : j < M.2.2.1) (hl9 : zput1 j (vR x) ls = ls') (d : decode M.2.1 pc = .ok (.astore_n i, 1)) (k : wq G R Z X M n0 n (pc + 1) ls' st h) : wq G R Z X M n0 n pc ls (vR x :: st) h := by
  intro p e s m args below meth c H locs lr hX hH hl hn h1 h2
  subst hl9
  exact lv_astore_n hX.1 hX.2.1 d hj hl hn9 rfl (fun lr' hl' => k p e s m args below meth c H locs lr' hX hH (zput1_has (v := vR x) hl') hn (zput1_ok h1 (zhd h2)) (ztl h2))
theorem wq_astore {j : Nat} {x : Nat} {ls' : zLs}  (hn9 : j < M.2.2.1) (hl9 : zput1 j (vR x) ls = ls') (d : decode M.2.1 pc = .ok (.astore j, 2)) (k : wq G R Z X M n0 n (pc + 2) ls' st h) : wq G R Z X M n0 n pc ls (vR x :: st) h := by
  intro p e s m args below meth c H locs lr hX hH hl hn h1 h2
  subst hl9
  exact lv_astore hX.1 hX.2.1 d hl hn9 rfl (fun lr' hl' => k p e s m args below meth c H locs lr' hX hH (zput1_has (v := vR x) hl') hn (zput1_ok h1 (zhd h2)) (ztl h2))
theorem wq_iinc {j : Nat} {x z y : Int} {ls' : zLs} (q : Nat) (hq : ls[q]? = some (j, vI x)) (hy : x + z = y) (hr : zII y) (hn9 : j < M.2.2.1) (hl9 : zput1 j (vI y) ls = ls') (d : decode M.2.1 pc = .ok (.iinc j z, 3)) (k : wq G R Z X M n0 n (pc + 3) ls' st h) : wq G R Z X M n0 n pc ls st h := by
  intro p e s m args below meth c H locs lr hX hH hl hn h1 h2
  subst hl9
  have hq' : (zlm G.2.1 ls)[q]? = some (j, Value.int (Int32.ofInt x)) := by rw [zlm, List.getElem?_map, hq]; rfl
  exact lv_iinc hX.1 hX.2.1 d hl hq' (v := Int32.ofInt y) (by rw [← hy, Int32.ofInt_add]) hn9 rfl (fun lr' hl' => k p e s m args below meth c H locs lr' hX hH (zput1_has (v := vI y) hl') hn (zput1_ok h1 hr) h2)
theorem wq_iadd {x y : Int} (hr : zII (x + y)) (d : decode M.2.1 pc = .ok (.iadd, 1)) (k : wq G R Z X M n0 n (pc + 1) ls (vI (x + y) :: st) h) : wq G R Z X M n0 n pc ls (vI y :: vI x :: st) h := by
  intro p e s m args below meth c H locs lr hX hH hl hn h1 h2
  refine lv_iadd hX.1 hX.2.1 d ?_
  rw [← Int32.ofInt_add]
  exact k p e s m args below meth c H locs lr hX hH hl hn h1 (zcons hr (ztl (ztl h2)))
theorem wq_iadd_w {x y : Int} (d : decode M.2.1 pc = .ok (.iadd, 1)) (k : wq G R Z X M n0 n (pc + 1) ls (vI (w32 (x + y)) :: st) h) : wq G R Z X M n0 n pc ls (vI y :: vI x :: st) h := by
  intro p e s m args below meth c H locs lr hX hH hl hn h1 h2
  refine lv_iadd hX.1 hX.2.1 d ?_
  rw [← Int32.ofInt_add, ← w32_I]
  exact k p e s m args below meth c H locs lr hX hH hl hn h1 (zcons (w32_r _) (ztl (ztl h2)))
theorem wq_ladd {x y : Int} (hr : zIL (x + y)) (d : decode M.2.1 pc = .ok (.ladd, 1)) (k : wq G R Z X M n0 n (pc + 1) ls (vL (x + y) :: st) h) : wq G R Z X M n0 n pc ls (vL y :: vL x :: st) h := by
  intro p e s m args below meth c H locs lr hX hH hl hn h1 h2
  refine lv_ladd hX.1 hX.2.1 d ?_
  rw [← Int64.ofInt_add]
  exact k p e s m args below meth c H locs lr hX hH hl hn h1 (zcons hr (ztl (ztl h2)))
theorem wq_ladd_w {x y : Int} (d : decode M.2.1 pc = .ok (.ladd, 1)) (k : wq G R Z X M n0 n (pc + 1) ls (vL (w64 (x + y)) :: st) h) : wq G R Z X M n0 n pc ls (vL y :: vL x :: st) h := by
  intro p e s m args below meth c H locs lr hX hH hl hn h1 h2
  refine lv_ladd hX.1 hX.2.1 d ?_
  rw [← Int64.ofInt_add, ← w64_L]
  exact k p e s m args below meth c H locs lr hX hH hl hn h1 (zcons (w64_r _) (ztl (ztl h2)))
theorem wq_isub {x y : Int} (hr : zII (x - y)) (d : decode M.2.1 pc = .ok (.isub, 1)) (k : wq G R Z X M n0 n (pc + 1) ls (vI (x - y) :: st) h) : wq G R Z X M n0 n pc ls (vI y :: vI x :: st) h := by
  intro p e s m args below meth c H locs lr hX hH hl hn h1 h2
  refine lv_isub hX.1 hX.2.1 d ?_
  rw [← Int32.ofInt_sub]
  exact k p e s m args below meth c H locs lr hX hH hl hn h1 (zcons hr (ztl (ztl h2)))
theorem wq_isub_w {x y : Int} (d : decode M.2.1 pc = .ok (.isub, 1)) (k : wq G R Z X M n0 n (pc + 1) ls (vI (w32 (x - y)) :: st) h) : wq G R Z X M n0 n pc ls (vI y :: vI x :: st) h := by
  intro p e s m args below meth c H locs lr hX hH hl hn h1 h2
  refine lv_isub hX.1 hX.2.1 d ?_
  rw [← Int32.ofInt_sub, ← w32_I]
  exact k p e s m args below meth c H locs lr hX hH hl hn h1 (zcons (w32_r _) (ztl (ztl h2)))
theorem wq_lsub {x y : Int} (hr : zIL (x - y)) (d : decode M.2.1 pc = .ok (.lsub, 1)) (k : wq G R Z X M n0 n (pc + 1) ls (vL (x - y) :: st) h) : wq G R Z X M n0 n pc ls (vL y :: vL x :: st) h := by
  intro p e s m args below meth c H locs lr hX hH hl hn h1 h2
  refine lv_lsub hX.1 hX.2.1 d ?_
  rw [← Int64.ofInt_sub]
  exact k p e s m args below meth c H locs lr hX hH hl hn h1 (zcons hr (ztl (ztl h2)))
theorem wq_lsub_w {x y : Int} (d : decode M.2.1 pc = .ok (.lsub, 1)) (k : wq G R Z X M n0 n (pc + 1) ls (vL (w64 (x - y)) :: st) h) : wq G R Z X M n0 n pc ls (vL y :: vL x :: st) h := by
  intro p e s m args below meth c H locs lr hX hH hl hn h1 h2
  refine lv_lsub hX.1 hX.2.1 d ?_
  rw [← Int64.ofInt_sub, ← w64_L]
  exact k p e s m args below meth c H locs lr hX hH hl hn h1 (zcons (w64_r _) (ztl (ztl h2)))
theorem wq_imul {x y : Int} (hr : zII (x * y)) (d : decode M.2.1 pc = .ok (.imul, 1)) (k : wq G R Z X M n0 n (pc + 1) ls (vI (x * y) :: st) h) : wq G R Z X M n0 n pc ls (vI y :: vI x :: st) h := by
  intro p e s m args below meth c H locs lr hX hH hl hn h1 h2
  refine lv_imul hX.1 hX.2.1 d ?_
  rw [← Int32.ofInt_mul]
  exact k p e s m args below meth c H locs lr hX hH hl hn h1 (zcons hr (ztl (ztl h2)))
theorem wq_imul_w {x y : Int} (d : decode M.2.1 pc = .ok (.imul, 1)) (k : wq G R Z X M n0 n (pc + 1) ls (vI (w32 (x * y)) :: st) h) : wq G R Z X M n0 n pc ls (vI y :: vI x :: st) h := by
  intro p e s m args below meth c H locs lr hX hH hl hn h1 h2
  refine lv_imul hX.1 hX.2.1 d ?_
  rw [← Int32.ofInt_mul, ← w32_I]
  exact k p e s m args below meth c H locs lr hX hH hl hn h1 (zcons (w32_r _) (ztl (ztl h2)))
theorem wq_lmul {x y : Int} (hr : zIL (x * y)) (d : decode M.2.1 pc = .ok (.lmul, 1)) (k : wq G R Z X M n0 n (pc + 1) ls (vL (x * y) :: st) h) : wq G R Z X M n0 n pc ls (vL y :: vL x :: st) h := by
  intro p e s m args below meth c H locs lr hX hH hl hn h1 h2
  refine lv_lmul hX.1 hX.2.1 d ?_
  rw [← Int64.ofInt_mul]
  exact k p e s m args below meth c H locs lr hX hH hl hn h1 (zcons hr (ztl (ztl h2)))
theorem wq_lmul_w {x y : Int} (d : decode M.2.1 pc = .ok (.lmul, 1)) (k : wq G R Z X M n0 n (pc + 1) ls (vL (w64 (x * y)) :: st) h) : wq G R Z X M n0 n pc ls (vL y :: vL x :: st) h := by
  intro p e s m args below meth c H locs lr hX hH hl hn h1 h2
  refine lv_lmul hX.1 hX.2.1 d ?_
  rw [← Int64.ofInt_mul, ← w64_L]
  exact k p e s m args below meth c H locs lr hX hH hl hn h1 (zcons (w64_r _) (ztl (ztl h2)))
theorem wq_idiv {x y : Int} (h0 : 0 < y) (d : decode M.2.1 pc = .ok (.idiv, 1)) (k : wq G R Z X M n0 n (pc + 1) ls (vI (x.tdiv y) :: st) h) : wq G R Z X M n0 n pc ls (vI y :: vI x :: st) h := by
  intro p e s m args below meth c H locs lr hX hH hl hn h1 h2
  have q := zi_div (zhd (ztl h2)) (zhd h2) h0
  refine lv_idiv hX.1 hX.2.1 d (fun e => by have e := (zi_eq0 (zhd h2)).mp e; omega) ?_
  rw [q.1]
  exact k p e s m args below meth c H locs lr hX hH hl hn h1 (zcons q.2 (ztl (ztl h2)))
theorem wq_irem {x y : Int} (h0 : 0 < y) (d : decode M.2.1 pc = .ok (.irem, 1)) (k : wq G R Z X M n0 n (pc + 1) ls (vI (x.tmod y) :: st) h) : wq G R Z X M n0 n pc ls (vI y :: vI x :: st) h := by
  intro p e s m args below meth c H locs lr hX hH hl hn h1 h2
  have q := zi_rem (zhd (ztl h2)) (zhd h2) h0
  refine lv_irem hX.1 hX.2.1 d (fun e => by have e := (zi_eq0 (zhd h2)).mp e; omega) ?_
  rw [q.1]
  exact k p e s m args below meth c H locs lr hX hH hl hn h1 (zcons q.2 (ztl (ztl h2)))
theorem wq_ldiv {x y : Int} (h0 : 0 < y) (d : decode M.2.1 pc = .ok (.ldiv, 1)) (k : wq G R Z X M n0 n (pc + 1) ls (vL (x.tdiv y) :: st) h) : wq G R Z X M n0 n pc ls (vL y :: vL x :: st) h := by
  intro p e s m args below meth c H locs lr hX hH hl hn h1 h2
  have q := zl_div (zhd (ztl h2)) (zhd h2) h0
  refine lv_ldiv hX.1 hX.2.1 d (fun e => by have e := (zl_eq (y := 0) (zhd h2) ⟨by omega, by omega⟩).mp e; omega) ?_
  rw [q.1]
  exact k p e s m args below meth c H locs lr hX hH hl hn h1 (zcons q.2 (ztl (ztl h2)))
theorem wq_ixor {x y : Int} (d : decode M.2.1 pc = .ok (.ixor, 1)) (k : wq G R Z X M n0 n (pc + 1) ls (vI (zxor x y) :: st) h) : wq G R Z X M n0 n pc ls (vI y :: vI x :: st) h := by
  intro p e s m args below meth c H locs lr hX hH hl hn h1 h2
  refine lv_ixor hX.1 hX.2.1 d ?_
  have q := k p e s m args below meth c H locs lr hX hH hl hn h1 (zcons (zi_rng _) (ztl (ztl h2)))
  simp only [List.map_cons, zv, zxor, zi_back] at q
  exact q
theorem wq_iand {x y : Int} (d : decode M.2.1 pc = .ok (.iand, 1)) (k : wq G R Z X M n0 n (pc + 1) ls (vI (zand x y) :: st) h) : wq G R Z X M n0 n pc ls (vI y :: vI x :: st) h := by
  intro p e s m args below meth c H locs lr hX hH hl hn h1 h2
  refine lv_iand hX.1 hX.2.1 d ?_
  have q := k p e s m args below meth c H locs lr hX hH hl hn h1 (zcons (zi_rng _) (ztl (ztl h2)))
  simp only [List.map_cons, zv, zand, zi_back] at q
  exact q
theorem wq_land {x y : Int} (d : decode M.2.1 pc = .ok (.land, 1)) (k : wq G R Z X M n0 n (pc + 1) ls (vL (zandL x y) :: st) h) : wq G R Z X M n0 n pc ls (vL y :: vL x :: st) h := by
  intro p e s m args below meth c H locs lr hX hH hl hn h1 h2
  refine lv_land hX.1 hX.2.1 d ?_
  have q := k p e s m args below meth c H locs lr hX hH hl hn h1 (zcons (zl_rng _) (ztl (ztl h2)))
  simp only [List.map_cons, zv, zandL, zl_back] at q
  exact q
theorem wq_lor {x y : Int} (d : decode M.2.1 pc = .ok (.lor, 1)) (k : wq G R Z X M n0 n (pc + 1) ls (vL (zorL x y) :: st) h) : wq G R Z X M n0 n pc ls (vL y :: vL x :: st) h := by
  intro p e s m args below meth c H locs lr hX hH hl hn h1 h2
  refine lv_lor hX.1 hX.2.1 d ?_
  have q := k p e s m args below meth c H locs lr hX hH hl hn h1 (zcons (zl_rng _) (ztl (ztl h2)))
  simp only [List.map_cons, zv, zorL, zl_back] at q
  exact q
theorem wq_lshl {x y : Int} (d : decode M.2.1 pc = .ok (.lshl, 1)) (k : wq G R Z X M n0 n (pc + 1) ls (vL (zshl x y) :: st) h) : wq G R Z X M n0 n pc ls (vI y :: vL x :: st) h := by
  intro p e s m args below meth c H locs lr hX hH hl hn h1 h2
  refine lv_lshl hX.1 hX.2.1 d rfl ?_
  have q := k p e s m args below meth c H locs lr hX hH hl hn h1 (zcons (zl_rng _) (ztl (ztl h2)))
  simp only [List.map_cons, zv, zshl, zl_back] at q
  exact q
theorem wq_lshr {x y : Int} (d : decode M.2.1 pc = .ok (.lshr, 1)) (k : wq G R Z X M n0 n (pc + 1) ls (vL (zshr x y) :: st) h) : wq G R Z X M n0 n pc ls (vI y :: vL x :: st) h := by
  intro p e s m args below meth c H locs lr hX hH hl hn h1 h2
  refine lv_lshr hX.1 hX.2.1 d rfl ?_
  have q := k p e s m args below meth c H locs lr hX hH hl hn h1 (zcons (zl_rng _) (ztl (ztl h2)))
  simp only [List.map_cons, zv, zshr, zl_back] at q
  exact q
theorem wq_lneg {x : Int} (hr : zIL (-x)) (d : decode M.2.1 pc = .ok (.lneg, 1)) (k : wq G R Z X M n0 n (pc + 1) ls (vL (-x) :: st) h) : wq G R Z X M n0 n pc ls (vL x :: st) h := by
  intro p e s m args below meth c H locs lr hX hH hl hn h1 h2
  refine lv_lneg hX.1 hX.2.1 d ?_
  rw [← Int64.ofInt_neg]
  exact k p e s m args below meth c H locs lr hX hH hl hn h1 (zcons hr (ztl h2))
theorem wq_i2l {x : Int} (d : decode M.2.1 pc = .ok (.i2l, 1)) (k : wq G R Z X M n0 n (pc + 1) ls (vL x :: st) h) : wq G R Z X M n0 n pc ls (vI x :: st) h := by
  intro p e s m args below meth c H locs lr hX hH hl hn h1 h2
  have q := zi_i2l (zhd h2)
  exact lv_i2l hX.1 hX.2.1 d q.1 (k p e s m args below meth c H locs lr hX hH hl hn h1 (zcons q.2 (ztl h2)))
theorem wq_l2i {x : Int} (d : decode M.2.1 pc = .ok (.l2i, 1)) (k : wq G R Z X M n0 n (pc + 1) ls (vI (w32 x) :: st) h) : wq G R Z X M n0 n pc ls (vL x :: st) h := by
  intro p e s m args below meth c H locs lr hX hH hl hn h1 h2
  exact lv_l2i hX.1 hX.2.1 d (zl_l2i (zhd h2)) (k p e s m args below meth c H locs lr hX hH hl hn h1 (zcons (w32_r _) (ztl h2)))
theorem wq_dup {v : zV} (hv : zcat v = 1) (d : decode M.2.1 pc = .ok (.dup, 1)) (k : wq G R Z X M n0 n (pc + 1) ls (v :: v :: st) h) : wq G R Z X M n0 n pc ls (v :: st) h := by
  intro p e s m args below meth c H locs lr hX hH hl hn h1 h2
  exact lv_dup hX.1 hX.2.1 d (by rw [zcat_v]; exact hv) (k p e s m args below meth c H locs lr hX hH hl hn h1 (zcons (zhd h2) h2))
theorem wq_pop {v : zV} (hv : zcat v = 1) (d : decode M.2.1 pc = .ok (.pop, 1)) (k : wq G R Z X M n0 n (pc + 1) ls (st) h) : wq G R Z X M n0 n pc ls (v :: st) h := by
  intro p e s m args below meth c H locs lr hX hH hl hn h1 h2
  exact lv_pop hX.1 hX.2.1 d (by rw [zcat_v]; exact hv) (k p e s m args below meth c H locs lr hX hH hl hn h1 (ztl h2))
theorem wq_dup2 {v w : zV} (hv : zcat v = 1) (hw : zcat w = 1) (d : decode M.2.1 pc = .ok (.dup2, 1)) (k : wq G R Z X M n0 n (pc + 1) ls (v :: w :: v :: w :: st) h) : wq G R Z X M n0 n pc ls (v :: w :: st) h := by
  intro p e s m args below meth c H locs lr hX hH hl hn h1 h2
  exact lv_dup2_11 hX.1 hX.2.1 d (by rw [zcat_v]; exact hv) (by rw [zcat_v]; exact hw) (k p e s m args below meth c H locs lr hX hH hl hn h1 (zcons (zhd h2) (zcons (zhd (ztl h2)) h2)))
theorem wq_if_eq {x : Int} {off : Int} (tgt : Nat) (ht : (pc : Int) + off = (tgt : Int)) (d : decode M.2.1 pc = .ok (.ifCond .eq off, 3)) (kt : x = 0 → wq G R Z X M n0 n tgt ls st h) (kf : x ≠ 0 → wq G R Z X M n0 n (pc + 3) ls st h) : wq G R Z X M n0 n pc ls (vI x :: st) h := by
  intro p e s m args below meth c H locs lr hX hH hl hn h1 h2
  exact lv_if_eq hX.1 hX.2.1 d ht (fun q => kt ((zi_eq0 (zhd h2)).mp q) p e s m args below meth c H locs lr hX hH hl hn h1 (ztl h2)) (fun q => kf (fun z => q ((zi_eq0 (zhd h2)).mpr z)) p e s m args below meth c H locs lr hX hH hl hn h1 (ztl h2))
theorem wq_if_ne {x : Int} {off : Int} (tgt : Nat) (ht : (pc : Int) + off = (tgt : Int)) (d : decode M.2.1 pc = .ok (.ifCond .ne off, 3)) (kt : x ≠ 0 → wq G R Z X M n0 n tgt ls st h) (kf : x = 0 → wq G R Z X M n0 n (pc + 3) ls st h) : wq G R Z X M n0 n pc ls (vI x :: st) h := by
  intro p e s m args below meth c H locs lr hX hH hl hn h1 h2
  exact lv_if_ne hX.1 hX.2.1 d ht (fun q => kt (fun z => q ((zi_eq0 (zhd h2)).mpr z)) p e s m args below meth c H locs lr hX hH hl hn h1 (ztl h2)) (fun q => kf ((zi_eq0 (zhd h2)).mp q) p e s m args below meth c H locs lr hX hH hl hn h1 (ztl h2))
theorem wq_if_lt {x : Int} {off : Int} (tgt : Nat) (ht : (pc : Int) + off = (tgt : Int)) (d : decode M.2.1 pc = .ok (.ifCond .lt off, 3)) (kt : x < 0 → wq G R Z X M n0 n tgt ls st h) (kf : 0 ≤ x → wq G R Z X M n0 n (pc + 3) ls st h) : wq G R Z X M n0 n pc ls (vI x :: st) h := by
  intro p e s m args below meth c H locs lr hX hH hl hn h1 h2
  exact lv_if_lt hX.1 hX.2.1 d ht (fun q => kt ((zi_lt0 (zhd h2)).mp q) p e s m args below meth c H locs lr hX hH hl hn h1 (ztl h2)) (fun q => kf (Int.not_lt.mp (fun z => q ((zi_lt0 (zhd h2)).mpr z))) p e s m args below meth c H locs lr hX hH hl hn h1 (ztl h2))
theorem wq_if_ge {x : Int} {off : Int} (tgt : Nat) (ht : (pc : Int) + off = (tgt : Int)) (d : decode M.2.1 pc = .ok (.ifCond .ge off, 3)) (kt : 0 ≤ x → wq G R Z X M n0 n tgt ls st h) (kf : x < 0 → wq G R Z X M n0 n (pc + 3) ls st h) : wq G R Z X M n0 n pc ls (vI x :: st) h := by
  intro p e s m args below meth c H locs lr hX hH hl hn h1 h2
  exact lv_if_ge hX.1 hX.2.1 d ht (fun q => kt ((zi_ge0 (zhd h2)).mp q) p e s m args below meth c H locs lr hX hH hl hn h1 (ztl h2)) (fun q => kf (Int.not_le.mp (fun z => q ((zi_ge0 (zhd h2)).mpr z))) p e s m args below meth c H locs lr hX hH hl hn h1 (ztl h2))
theorem wq_if_gt {x : Int} {off : Int} (tgt : Nat) (ht : (pc : Int) + off = (tgt : Int)) (d : decode M.2.1 pc = .ok (.ifCond .gt off, 3)) (kt : 0 < x → wq G R Z X M n0 n tgt ls st h) (kf : x ≤ 0 → wq G R Z X M n0 n (pc + 3) ls st h) : wq G R Z X M n0 n pc ls (vI x :: st) h := by
  intro p e s m args below meth c H locs lr hX hH hl hn h1 h2
  exact lv_if_gt hX.1 hX.2.1 d ht (fun q => kt ((zi_gt0 (zhd h2)).mp q) p e s m args below meth c H locs lr hX hH hl hn h1 (ztl h2)) (fun q => kf (Int.not_lt.mp (fun z => q ((zi_gt0 (zhd h2)).mpr z))) p e s m args below meth c H locs lr hX hH hl hn h1 (ztl h2))
theorem wq_if_le {x : Int} {off : Int} (tgt : Nat) (ht : (pc : Int) + off = (tgt : Int)) (d : decode M.2.1 pc = .ok (.ifCond .le off, 3)) (kt : x ≤ 0 → wq G R Z X M n0 n tgt ls st h) (kf : 0 < x → wq G R Z X M n0 n (pc + 3) ls st h) : wq G R Z X M n0 n pc ls (vI x :: st) h := by
  intro p e s m args below meth c H locs lr hX hH hl hn h1 h2
  exact lv_if_le hX.1 hX.2.1 d ht (fun q => kt ((zi_le0 (zhd h2)).mp q) p e s m args below meth c H locs lr hX hH hl hn h1 (ztl h2)) (fun q => kf (Int.not_le.mp (fun z => q ((zi_le0 (zhd h2)).mpr z))) p e s m args below meth c H locs lr hX hH hl hn h1 (ztl h2))
theorem wq_icmp_eq {x y : Int} {off : Int} (tgt : Nat) (ht : (pc : Int) + off = (tgt : Int)) (d : decode M.2.1 pc = .ok (.if_icmp .eq off, 3)) (kt : x = y → wq G R Z X M n0 n tgt ls st h) (kf : x ≠ y → wq G R Z X M n0 n (pc + 3) ls st h) : wq G R Z X M n0 n pc ls (vI y :: vI x :: st) h := by
  intro p e s m args below meth c H locs lr hX hH hl hn h1 h2
  exact lv_icmp_eq hX.1 hX.2.1 d ht (fun q => kt ((zi_eq (zhd (ztl h2)) (zhd h2)).mp q) p e s m args below meth c H locs lr hX hH hl hn h1 (ztl (ztl h2))) (fun q => kf (fun z => q ((zi_eq (zhd (ztl h2)) (zhd h2)).mpr z)) p e s m args below meth c H locs lr hX hH hl hn h1 (ztl (ztl h2)))
theorem wq_icmp_ne {x y : Int} {off : Int} (tgt : Nat) (ht : (pc : Int) + off = (tgt : Int)) (d : decode M.2.1 pc = .ok (.if_icmp .ne off, 3)) (kt : x ≠ y → wq G R Z X M n0 n tgt ls st h) (kf : x = y → wq G R Z X M n0 n (pc + 3) ls st h) : wq G R Z X M n0 n pc ls (vI y :: vI x :: st) h := by
  intro p e s m args below meth c H locs lr hX hH hl hn h1 h2
  exact lv_icmp_ne hX.1 hX.2.1 d ht (fun q => kt (fun z => q ((zi_eq (zhd (ztl h2)) (zhd h2)).mpr z)) p e s m args below meth c H locs lr hX hH hl hn h1 (ztl (ztl h2))) (fun q => kf ((zi_eq (zhd (ztl h2)) (zhd h2)).mp q) p e s m args below meth c H locs lr hX hH hl hn h1 (ztl (ztl h2)))
theorem wq_icmp_lt {x y : Int} {off : Int} (tgt : Nat) (ht : (pc : Int) + off = (tgt : Int)) (d : decode M.2.1 pc = .ok (.if_icmp .lt off, 3)) (kt : x < y → wq G R Z X M n0 n tgt ls st h) (kf : y ≤ x → wq G R Z X M n0 n (pc + 3) ls st h) : wq G R Z X M n0 n pc ls (vI y :: vI x :: st) h := by
  intro p e s m args below meth c H locs lr hX hH hl hn h1 h2
  exact lv_icmp_lt hX.1 hX.2.1 d ht (fun q => kt ((zi_lt (zhd (ztl h2)) (zhd h2)).mp q) p e s m args below meth c H locs lr hX hH hl hn h1 (ztl (ztl h2))) (fun q => kf (Int.not_lt.mp (fun z => q ((zi_lt (zhd (ztl h2)) (zhd h2)).mpr z))) p e s m args below meth c H locs lr hX hH hl hn h1 (ztl (ztl h2)))
theorem wq_icmp_ge {x y : Int} {off : Int} (tgt : Nat) (ht : (pc : Int) + off = (tgt : Int)) (d : decode M.2.1 pc = .ok (.if_icmp .ge off, 3)) (kt : y ≤ x → wq G R Z X M n0 n tgt ls st h) (kf : x < y → wq G R Z X M n0 n (pc + 3) ls st h) : wq G R Z X M n0 n pc ls (vI y :: vI x :: st) h := by
  intro p e s m args below meth c H locs lr hX hH hl hn h1 h2
  exact lv_icmp_ge hX.1 hX.2.1 d ht (fun q => kt ((zi_le (zhd h2) (zhd (ztl h2))).mp q) p e s m args below meth c H locs lr hX hH hl hn h1 (ztl (ztl h2))) (fun q => kf (Int.not_le.mp (fun z => q ((zi_le (zhd h2) (zhd (ztl h2))).mpr z))) p e s m args below meth c H locs lr hX hH hl hn h1 (ztl (ztl h2)))
theorem wq_icmp_gt {x y : Int} {off : Int} (tgt : Nat) (ht : (pc : Int) + off = (tgt : Int)) (d : decode M.2.1 pc = .ok (.if_icmp .gt off, 3)) (kt : y < x → wq G R Z X M n0 n tgt ls st h) (kf : x ≤ y → wq G R Z X M n0 n (pc + 3) ls st h) : wq G R Z X M n0 n pc ls (vI y :: vI x :: st) h := by
  intro p e s m args below meth c H locs lr hX hH hl hn h1 h2
  exact lv_icmp_gt hX.1 hX.2.1 d ht (fun q => kt ((zi_lt (zhd h2) (zhd (ztl h2))).mp q) p e s m args below meth c H locs lr hX hH hl hn h1 (ztl (ztl h2))) (fun q => kf (Int.not_lt.mp (fun z => q ((zi_lt (zhd h2) (zhd (ztl h2))).mpr z))) p e s m args below meth c H locs lr hX hH hl hn h1 (ztl (ztl h2)))
theorem wq_icmp_le {x y : Int} {off : Int} (tgt : Nat) (ht : (pc : Int) + off = (tgt : Int)) (d : decode M.2.1 pc = .ok (.if_icmp .le off, 3)) (kt : x ≤ y → wq G R Z X M n0 n tgt ls st h) (kf : y < x → wq G R Z X M n0 n (pc + 3) ls st h) : wq G R Z X M n0 n pc ls (vI y :: vI x :: st) h := by
  intro p e s m args below meth c H locs lr hX hH hl hn h1 h2
  exact lv_icmp_le hX.1 hX.2.1 d ht (fun q => kt ((zi_le (zhd (ztl h2)) (zhd h2)).mp q) p e s m args below meth c H locs lr hX hH hl hn h1 (ztl (ztl h2))) (fun q => kf (Int.not_le.mp (fun z => q ((zi_le (zhd (ztl h2)) (zhd h2)).mpr z))) p e s m args below meth c H locs lr hX hH hl hn h1 (ztl (ztl h2)))
theorem wq_goto {off : Int} (tgt : Nat) (ht : (pc : Int) + off = (tgt : Int)) (d : decode M.2.1 pc = .ok (.goto off, 3)) (k : wq G R Z X M n0 n tgt ls st h) : wq G R Z X M n0 n pc ls st h := by
  intro p e s m args below meth c H locs lr hX hH hl hn h1 h2
  exact lv_goto hX.1 hX.2.1 d ht (k p e s m args below meth c H locs lr hX hH hl hn h1 h2)
theorem zcmp_val {x y : Int} (hx : zIL x) (hy : zIL y) : lg_cmp (Int64.ofInt x) (Int64.ofInt y) = if y < x then 1 else if x = y then 0 else -1 := by
  unfold lg_cmp
  by_cases a : y < x
  · rw [if_pos ((zl_lt' hy hx).mpr a), if_pos a]
  · rw [if_neg (fun q => a ((zl_lt' hy hx).mp q)), if_neg a]
    by_cases b : x = y
    · rw [if_pos (by rw [b]), if_pos b]
    · rw [if_neg (fun q => b ((zl_eq hx hy).mp q)), if_neg b]
theorem wq_lcmp_eq {x y : Int} {off : Int} (tgt : Nat) (ht : ((pc + 1 : Nat) : Int) + off = (tgt : Int)) (d1 : decode M.2.1 pc = .ok (.lcmp, 1)) (d : decode M.2.1 (pc + 1) = .ok (.ifCond .eq off, 3)) (kt : x = y → wq G R Z X M n0 n tgt ls st h) (kf : x ≠ y → wq G R Z X M n0 n (pc + 1 + 3) ls st h) : wq G R Z X M n0 n pc ls (vL y :: vL x :: st) h := by
  intro p e s m args below meth c H locs lr hX hH hl hn h1 h2
  refine W.lcmp hX.1 hX.2.1 d1 ?_
  rw [zcmp_val (zhd (ztl h2)) (zhd h2)]
  refine lv_if_eq hX.1 hX.2.1 d ht (fun q => kt ?_ p e s m args below meth c H locs lr hX hH hl hn h1 (ztl (ztl h2))) (fun q => kf ?_ p e s m args below meth c H locs lr hX hH hl hn h1 (ztl (ztl h2)))
  · revert q
    by_cases a : y < x
    · rw [if_pos a]; intro q; first | omega | exact absurd q (by decide)
    · rw [if_neg a]
      by_cases b : x = y
      · rw [if_pos b]; intro q; first | omega | exact absurd q (by decide)
      · rw [if_neg b]; intro q; first | omega | exact absurd q (by decide)
  · revert q
    by_cases a : y < x
    · rw [if_pos a]; intro q; first | omega | exact absurd q (by decide)
    · rw [if_neg a]
      by_cases b : x = y
      · rw [if_pos b]; intro q; first | omega | exact absurd q (by decide)
      · rw [if_neg b]; intro q; first | omega | exact absurd q (by decide)
theorem wq_lcmp_ne {x y : Int} {off : Int} (tgt : Nat) (ht : ((pc + 1 : Nat) : Int) + off = (tgt : Int)) (d1 : decode M.2.1 pc = .ok (.lcmp, 1)) (d : decode M.2.1 (pc + 1) = .ok (.ifCond .ne off, 3)) (kt : x ≠ y → wq G R Z X M n0 n tgt ls st h) (kf : x = y → wq G R Z X M n0 n (pc + 1 + 3) ls st h) : wq G R Z X M n0 n pc ls (vL y :: vL x :: st) h := by
  intro p e s m args below meth c H locs lr hX hH hl hn h1 h2
  refine W.lcmp hX.1 hX.2.1 d1 ?_
  rw [zcmp_val (zhd (ztl h2)) (zhd h2)]
  refine lv_if_ne hX.1 hX.2.1 d ht (fun q => kt ?_ p e s m args below meth c H locs lr hX hH hl hn h1 (ztl (ztl h2))) (fun q => kf ?_ p e s m args below meth c H locs lr hX hH hl hn h1 (ztl (ztl h2)))
  · revert q
    by_cases a : y < x
    · rw [if_pos a]; intro q; first | omega | exact absurd q (by decide)
    · rw [if_neg a]
      by_cases b : x = y
      · rw [if_pos b]; intro q; first | omega | exact absurd q (by decide)
      · rw [if_neg b]; intro q; first | omega | exact absurd q (by decide)
  · revert q
    by_cases a : y < x
    · rw [if_pos a]; intro q; first | omega | exact absurd q (by decide)
    · rw [if_neg a]
      by_cases b : x = y
      · rw [if_pos b]; intro q; first | omega | exact absurd q (by decide)
      · rw [if_neg b]; intro q; first | omega | exact absurd q (by decide)
theorem wq_lcmp_lt {x y : Int} {off : Int} (tgt : Nat) (ht : ((pc + 1 : Nat) : Int) + off = (tgt : Int)) (d1 : decode M.2.1 pc = .ok (.lcmp, 1)) (d : decode M.2.1 (pc + 1) = .ok (.ifCond .lt off, 3)) (kt : x < y → wq G R Z X M n0 n tgt ls st h) (kf : y ≤ x → wq G R Z X M n0 n (pc + 1 + 3) ls st h) : wq G R Z X M n0 n pc ls (vL y :: vL x :: st) h := by
  intro p e s m args below meth c H locs lr hX hH hl hn h1 h2
  refine W.lcmp hX.1 hX.2.1 d1 ?_
  rw [zcmp_val (zhd (ztl h2)) (zhd h2)]
  refine lv_if_lt hX.1 hX.2.1 d ht (fun q => kt ?_ p e s m args below meth c H locs lr hX hH hl hn h1 (ztl (ztl h2))) (fun q => kf ?_ p e s m args below meth c H locs lr hX hH hl hn h1 (ztl (ztl h2)))
  · revert q
    by_cases a : y < x
    · rw [if_pos a]; intro q; first | omega | exact absurd q (by decide)
    · rw [if_neg a]
      by_cases b : x = y
      · rw [if_pos b]; intro q; first | omega | exact absurd q (by decide)
      · rw [if_neg b]; intro q; first | omega | exact absurd q (by decide)
  · revert q
    by_cases a : y < x
    · rw [if_pos a]; intro q; first | omega | exact absurd q (by decide)
    · rw [if_neg a]
      by_cases b : x = y
      · rw [if_pos b]; intro q; first | omega | exact absurd q (by decide)
      · rw [if_neg b]; intro q; first | omega | exact absurd q (by decide)
theorem wq_lcmp_ge {x y : Int} {off : Int} (tgt : Nat) (ht : ((pc + 1 : Nat) : Int) + off = (tgt : Int)) (d1 : decode M.2.1 pc = .ok (.lcmp, 1)) (d : decode M.2.1 (pc + 1) = .ok (.ifCond .ge off, 3)) (kt : y ≤ x → wq G R Z X M n0 n tgt ls st h) (kf : x < y → wq G R Z X M n0 n (pc + 1 + 3) ls st h) : wq G R Z X M n0 n pc ls (vL y :: vL x :: st) h := by
  intro p e s m args below meth c H locs lr hX hH hl hn h1 h2
  refine W.lcmp hX.1 hX.2.1 d1 ?_
  rw [zcmp_val (zhd (ztl h2)) (zhd h2)]
  refine lv_if_ge hX.1 hX.2.1 d ht (fun q => kt ?_ p e s m args below meth c H locs lr hX hH hl hn h1 (ztl (ztl h2))) (fun q => kf ?_ p e s m args below meth c H locs lr hX hH hl hn h1 (ztl (ztl h2)))
  · revert q
    by_cases a : y < x
    · rw [if_pos a]; intro q; first | omega | exact absurd q (by decide)
    · rw [if_neg a]
      by_cases b : x = y
      · rw [if_pos b]; intro q; first | omega | exact absurd q (by decide)
      · rw [if_neg b]; intro q; first | omega | exact absurd q (by decide)
  · revert q
    by_cases a : y < x
    · rw [if_pos a]; intro q; first | omega | exact absurd q (by decide)
    · rw [if_neg a]
      by_cases b : x = y
      · rw [if_pos b]; intro q; first | omega | exact absurd q (by decide)
      · rw [if_neg b]; intro q; first | omega | exact absurd q (by decide)
theorem wq_lcmp_gt {x y : Int} {off : Int} (tgt : Nat) (ht : ((pc + 1 : Nat) : Int) + off = (tgt : Int)) (d1 : decode M.2.1 pc = .ok (.lcmp, 1)) (d : decode M.2.1 (pc + 1) = .ok (.ifCond .gt off, 3)) (kt : y < x → wq G R Z X M n0 n tgt ls st h) (kf : x ≤ y → wq G R Z X M n0 n (pc + 1 + 3) ls st h) : wq G R Z X M n0 n pc ls (vL y :: vL x :: st) h := by
  intro p e s m args below meth c H locs lr hX hH hl hn h1 h2
  refine W.lcmp hX.1 hX.2.1 d1 ?_
  rw [zcmp_val (zhd (ztl h2)) (zhd h2)]
  refine lv_if_gt hX.1 hX.2.1 d ht (fun q => kt ?_ p e s m args below meth c H locs lr hX hH hl hn h1 (ztl (ztl h2))) (fun q => kf ?_ p e s m args below meth c H locs lr hX hH hl hn h1 (ztl (ztl h2)))
  · revert q
    by_cases a : y < x
    · rw [if_pos a]; intro q; first | omega | exact absurd q (by decide)
    · rw [if_neg a]
      by_cases b : x = y
      · rw [if_pos b]; intro q; first | omega | exact absurd q (by decide)
      · rw [if_neg b]; intro q; first | omega | exact absurd q (by decide)
  · revert q
    by_cases a : y < x
    · rw [if_pos a]; intro q; first | omega | exact absurd q (by decide)
    · rw [if_neg a]
      by_cases b : x = y
      · rw [if_pos b]; intro q; first | omega | exact absurd q (by decide)
      · rw [if_neg b]; intro q; first | omega | exact absurd q (by decide)
theorem wq_lcmp_le {x y : Int} {off : Int} (tgt : Nat) (ht : ((pc + 1 : Nat) : Int) + off = (tgt : Int)) (d1 : decode M.2.1 pc = .ok (.lcmp, 1)) (d : decode M.2.1 (pc + 1) = .ok (.ifCond .le off, 3)) (kt : x ≤ y → wq G R Z X M n0 n tgt ls st h) (kf : y < x → wq G R Z X M n0 n (pc + 1 + 3) ls st h) : wq G R Z X M n0 n pc ls (vL y :: vL x :: st) h := by
  intro p e s m args below meth c H locs lr hX hH hl hn h1 h2
  refine W.lcmp hX.1 hX.2.1 d1 ?_
  rw [zcmp_val (zhd (ztl h2)) (zhd h2)]
  refine lv_if_le hX.1 hX.2.1 d ht (fun q => kt ?_ p e s m args below meth c H locs lr hX hH hl hn h1 (ztl (ztl h2))) (fun q => kf ?_ p e s m args below meth c H locs lr hX hH hl hn h1 (ztl (ztl h2)))
  · revert q
    by_cases a : y < x
    · rw [if_pos a]; intro q; first | omega | exact absurd q (by decide)
    · rw [if_neg a]
      by_cases b : x = y
      · rw [if_pos b]; intro q; first | omega | exact absurd q (by decide)
      · rw [if_neg b]; intro q; first | omega | exact absurd q (by decide)
  · revert q
    by_cases a : y < x
    · rw [if_pos a]; intro q; first | omega | exact absurd q (by decide)
    · rw [if_neg a]
      by_cases b : x = y
      · rw [if_pos b]; intro q; first | omega | exact absurd q (by decide)
      · rw [if_neg b]; intro q; first | omega | exact absurd q (by decide)
theorem wq_tsw {x : Int} {dflt lo hi : Int} {offs : Array Int} {len : Nat} (td : Nat) (tgts : List Nat) (hd : (pc : Int) + dflt = (td : Int)) (ht : offs.toList.map (fun o => (pc : Int) + o) = tgts.map (fun (t : Nat) => (t : Int))) (hh : hi = lo + tgts.length - 1) (d : decode M.2.1 pc = .ok (.tableswitch dflt lo hi offs, len))
    (kd : x < lo ∨ hi < x → wq G R Z X M n0 n td ls st h) (kc : ∀ (j tg : Nat), tgts[j]? = some tg → x = lo + j → wq G R Z X M n0 n tg ls st h) : wq G R Z X M n0 n pc ls (vI x :: st) h := by
  intro p e s m args below meth c H locs lr hX hH hl hn h1 h2
  have ex := zi_of (zhd h2)
  by_cases ho : x < lo ∨ hi < x
  · exact lv_tableOut hX.1 hX.2.1 d (by rw [ex]; exact ho) hd (kd ho p e s m args below meth c H locs lr hX hH hl hn h1 (ztl h2))
  · have g1 : ¬ x < lo := fun q => ho (Or.inl q)
    have g2 : ¬ hi < x := fun q => ho (Or.inr q)
    have hj : (x - lo).toNat < tgts.length := by omega
    have e1 : (offs.toList.map (fun o => (pc : Int) + o))[(x - lo).toNat]? = some ((tgts[(x - lo).toNat] : Nat) : Int) := by rw [ht, List.getElem?_map, List.getElem?_eq_getElem hj]; rfl
    rw [List.getElem?_map] at e1
    obtain ⟨off, e2, e3⟩ := Option.map_eq_some_iff.mp e1
    refine lv_tableIn hX.1 hX.2.1 d (by rw [ex]; exact g1) (by rw [ex]; exact g2) (off := off) (tgt := tgts[(x - lo).toNat]) (by rw [ex, ← Array.getElem?_toList]; exact e2) e3 ?_
    exact kc (x - lo).toNat _ (List.getElem?_eq_getElem hj) (by omega) p e s m args below meth c H locs lr hX hH hl hn h1 (ztl h2)
theorem wq_lsw {x : Int} {dflt : Int} {ps : Array (Int × Int)} {len : Nat} (hp : (ps.toList.zip (ps.toList.drop 1)).all (fun (a, next) => a.1 < next.1) = true) (d : decode M.2.1 pc = .ok (.lookupswitch dflt ps, len))
    (k : ∀ (off : Int), Op.lookupswitch.offset ps.toList dflt x = off → ∃ tgt : Nat, (pc : Int) + off = (tgt : Int) ∧ wq G R Z X M n0 n tgt ls st h) : wq G R Z X M n0 n pc ls (vI x :: st) h := by
  intro p e s m args below meth c H locs lr hX hH hl hn h1 h2
  have ex := zi_of (zhd h2)
  obtain ⟨tgt, ht, kk⟩ := k _ rfl
  exact lv_lookup hX.1 hX.2.1 d hp (by rw [ex]) ht (kk p e s m args below meth c H locs lr hX hH hl hn h1 (ztl h2))
end RULES
