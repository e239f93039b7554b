theorem zKx.moved {G : zG} {u U : State} (hW : u.WarmedH U.vm) (h : zKx G u) : zKx G U :=
  ⟨va_K.moved hW.alike h.1, ⟨h.2.1.1.moved hW.alike, h.2.1.2.1.moved hW.alike, h.2.1.2.2.1.moved hW.alike, h.2.1.2.2.2.moved hW.alike⟩, va_Nw.warmM hW h.2.2⟩
theorem zKx.calling {G : zG} {U : State} {g : JFrame} {mk : MethodId} {a : Array Value} (h : zKx G U) : zKx G (U.calling g mk a) :=
  ⟨va_K.moved (u := U) (U := U.calling g mk a) (Vm.Alike.refl U.vm) h.1, ⟨h.2.1.1.moved (u := U) (U := U.calling g mk a) (Vm.Alike.refl U.vm), h.2.1.2.1.moved (u := U) (U := U.calling g mk a) (Vm.Alike.refl U.vm), h.2.1.2.2.1.moved (u := U) (U := U.calling g mk a) (Vm.Alike.refl U.vm), h.2.1.2.2.2.moved (u := U) (U := U.calling g mk a) (Vm.Alike.refl U.vm)⟩, va_Nw.same rfl (u := U) (U := U.calling g mk a) rfl h.2.2⟩
def zar : Nat → List zV → zLs
  | _, [] => []
  | k, v :: vs => (k, v) :: zar (k + zcat v) vs
def zsz (As : List zV) : Nat := (As.map zcat).sum
theorem zar_ok {As : List zV} (h : ∀ v ∈ As, zok v) : ∀ (k : Nat), ∀ q ∈ zar k As, zok q.2 := by
  induction As with
  | nil => intro k q hq; cases hq
  | cons v vs ih =>
    intro k q hq
    rcases List.mem_cons.mp hq with rfl | hq
    · exact zhd h
    · exact ih (ztl h) _ q hq
theorem zar_args {B : Nat} : ∀ (As : List zV) (k : Nat), lv_args k (As.map (zv B)) = zlm B (zar k As)
  | [], _ => rfl
  | v :: vs, k => by
    have ih := zar_args (B := B) vs
    rcases v with z | z | a <;> simp [lv_args, zar, zlm, zcat, zv, Value.category, ih]
theorem zsz_len {B : Nat} : ∀ (As : List zV), (lg_sl (As.map (zv B))).length = zsz As
  | [] => rfl
  | v :: vs => by
    have ih := zsz_len (B := B) vs
    rcases v with z | z | a <;> simp_all [lg_sl, zsz, zcat, zv, Value.category] <;> omega
def zPc (G : zG) (n : Nat) (h : zHp) (As : List zV) : Array Value → State → Prop := fun a U => a = (As.map (zv G.2.1)).toArray ∧ zHe G n h U.heap ∧ zKx G U
theorem zPc_blind {G : zG} {n : Nat} {h : zHp} {As : List zV} : FrameBlind (zPc G n h As) := fun _ _ _ _ q => ⟨q.1, q.2.1, q.2.2.calling⟩
theorem zofW {l : Launch} {y : MethodName} {ws ws' : List Cond} {rm : Room} {Pc : Array Value → State → Prop} {Qc : Array Value → State → Outcome → State → Prop} {mc ms : Nat} {free : Addr → Prop} {cc : ByteArray} {maxL : Nat} {ret : Option FieldType}
    (hy : plainFor y = true) (hw : ws = Cond.code y cc maxL ret :: ws')
    (body : ∀ p e s m args below meth c s₁, BodyLoose p l y (headSpec ws rm) cc maxL ret e s m args below meth c s₁ → c.maxLocals = maxL → Pc args s →
      W p l e (headSpec ws rm).room s m args below meth c s.heap [] 0 0 (MQ below Qc args s mc ms free) (entryFrame m args maxL)) : Met l y ws rm Pc Qc mc ms free := by
  refine MetFree.of_bodySF (code := cc) (maxLocals := maxL) (ret := ret) hy ?_ ?_
  · intro args s m h hn
    obtain ⟨meth, c, h1, h2, h3, h4, h5, h6, -, -⟩ := Cond.code_spec hn (atoms_spec (ws := ws) h _ (by rw [hw]; exact List.mem_cons_self))
    exact ⟨meth, c, h1, h2, h3, h4, h5, h6⟩
  · intro p e s m args below meth c s₁ B hml hP _
    have hh0 : s₁.heap = s.heap := by rw [B.state]; rfl
    obtain ⟨t, a1, o, b1, b2, b3⟩ := body p e s m args below meth c s₁ B hml hP s₁ hh0 (Stand.of_body B)
    exact ⟨t, o, a1, b1, b2, ⟨b3.1, b3.2⟩⟩
theorem zMet {G : zG} {d nE n : Nat} {M' : zM} {As : List zV} {h : zHp} {Q : Option zV → zHp → Prop} (hw : wp G d n nE M' n 0 (zar 0 As) [] h Q) (hok : ∀ v ∈ As, zok v) (hy : plainFor M'.1 = true) (hsz : zsz As ≤ M'.2.2.1) :
    Met G.1 M'.1 (Cond.code M'.1 M'.2.1 M'.2.2.1 M'.2.2.2 :: zgw) (zRm d n nE) (zPc G n h As) (zQc G nE Q) (nE - n) (zSL nE - zSL n) (zA G) := by
  refine zofW (cc := M'.2.1) (maxL := M'.2.2.1) (ret := M'.2.2.2) hy rfl ?_
  intro p e s m args below meth c s₁ B hml hP
  obtain ⟨rfl, hHe, hK⟩ := hP
  have hts := atoms_spec (ws := Cond.code M'.1 M'.2.1 M'.2.2.1 M'.2.2.2 :: zgw) B.pre
  have hown : s.vm.findClass M'.1.cls = some m.cls := findClass_of_methodNamed B.named
  have hin : meth.name = M'.1.name := (name_of_methodNamed B.named B.method).1
  rw [lg_entry_eq]
  have hl := lv_entry (As.map (zv G.2.1)) (n := M'.2.2.1) (by rw [zsz_len]; exact hsz)
  rw [zar_args] at hl
  have k := hw p e s m ((As.map (zv G.2.1)).toArray) below meth c s.heap [] _ ⟨B.exec, B.bytes, B.returns, B.notSynchronized, hml, hown, fun w hw => hts w (List.mem_cons_of_mem _ hw), hin, hK, trivial⟩ ⟨hHe, va_S.rf, hHe.2.1⟩ hl (Nat.le_refl n) (zar_ok hok 0) (fun v hv => by cases hv)
  rw [Nat.sub_self, Nat.sub_self] at k
  exact k
def zFit (R : Room) (n0 nE d : Nat) : Prop := d + 1 ≤ R.frames ∧ 100 * d + 99 ≤ R.locals ∧ nE - n0 ≤ R.cells ∧ zSL nE - zSL n0 ≤ R.slots
theorem zFit_rm {d d' n0 n' nE : Nat} (h1 : d + 1 ≤ d') (h2 : n' ≤ nE) : zFit (zRm d' n0 nE) n0 n' d := by
  have := zSL_le h2
  refine ⟨h1, ?_, ?_, ?_⟩
  · show 100 * d + 99 ≤ 100 * d'
    omega
  · show n' - n0 ≤ nE - n0
    omega
  · show zSL n' - zSL n0 ≤ zSL nE - zSL n0
    omega
section CALLS
variable {G : zG} {R : Room} {Z : List Frame → Array Value → State → State → Prop} {X : Array Value → State → Prop} {M : zM} {n0 n pc : Nat} {ls : zLs} {st : List zV} {h : zHp}
theorem zcall_go {d' nE' : Nat} {Q' : Option zV → zHp → Prop} {p : Program} {e : Env} {s : State} {m : MethodId} {args : Array Value} {below : List Frame} {meth : Method} {c : Code} {H : Heap} {locs : List Loc} {lr : Array Slot} {stk : List Value} {a9 : Array Value}
    (hn' : n ≤ nE') (hX : zX G X M p s m args meth c) (hH : zH G n0 n h s H locs) (hl : lv_has lr M.2.2.1 (zlm G.2.1 ls)) (hn : n0 ≤ n) (h1 : ∀ q ∈ ls, zok q.2) (h2 : ∀ v ∈ st, zok v)
    (run : va_Run p G.1 e R s m args below meth c H locs (n - n0) (zSL n - zSL n0) (nE' - n) (zSL nE' - zSL n) (F0 m pc lr stk) (st.map (zv G.2.1)) (zQc G nE' Q' a9) (zA G))
    (k : ∀ (v : Option zV) (h' : zHp), Q' v h' → (∀ x ∈ v.toList, zok x) → wq G R Z X M n0 nE' (pc + 3) ls (v.toList ++ st) h') :
    W p G.1 e R s m args below meth c H locs (n - n0) (zSL n - zSL n0) (Z below args s) (F0 m pc lr stk) := by
  intro T hT X'
  obtain ⟨v, st₀, t, T', L, g0, X'', hL, e1, e2, ⟨v', h', hv, hq, hok, hHe, hF⟩, st'⟩ := run T hT X'
  cases hv
  have z1 := zSL_le hn
  have z2 := zSL_le hn'
  rw [show n - n0 + (nE' - n) = nE' - n0 by omega, show zSL n - zSL n0 + (zSL nE' - zSL n) = zSL nE' - zSL n0 by omega] at X''
  have hS := hH.2.1
  have kk := k v' h' hq hok p e s m args below meth c T'.heap (locs ++ L) lr hX ⟨by rw [e1]; exact hHe, ⟨Nat.le_trans hS.1 (by rw [e1]; rw [← g0]; exact hF.1), fun q w1 w2 => by
      rw [e1, hF.2 q (by rw [g0]; exact Nat.lt_of_lt_of_le w1 hS.1) w2, g0]
      exact hS.2.1 q w1 w2, fun q hq => by
      rcases List.mem_append.mp hq with w | w
      · exact hS.2.2 q w
      · exact hL q w⟩, hH.2.2⟩ hl (by omega) h1 (fun x hx => by
      rcases List.mem_append.mp hx with w | w
      · exact hok x w
      · exact h2 x w) T' rfl X''
  obtain ⟨t2, a1, b1⟩ := kk
  refine ⟨t2, st' t2 ?_, b1⟩
  have ef : ({ F0 m pc lr stk with pc := (F0 m pc lr stk).pc + 3, stack := (v'.map (zv G.2.1)).toList ++ st.map (zv G.2.1) } : JFrame) = F0 m (pc + 3) lr ((v'.toList ++ st).map (zv G.2.1)) := by
    cases v' <;> rfl
  rw [ef]
  exact a1
theorem zcB {d' nE' idx k : Nat} {M' : zM} {s : State} {args : Array Value} (hts : ∀ w ∈ zgw, w.before args s = true) (hm : zMd M' k) (hlk : Cond.methodLink M.1.cls idx M'.1 ∈ zgw) (hR : zFit R n0 nE' d') :
    CallB R s args M.1.cls idx M'.1 M'.2.1 M'.2.2.1 M'.2.2.2 (Cond.code M'.1 M'.2.1 M'.2.2.1 M'.2.2.2 :: zgw) (zRm d' n nE') (nE' - n) (zSL nE' - zSL n) k := by
  obtain ⟨m1, m2, m3, m4, m5, m6⟩ := hm
  refine ⟨rfl, rfl, hR.1, ?_, ?_, List.mem_cons_self, hts _ m2, hts _ m3, m4, ?_, hts _ hlk⟩
  · show 8 + (M'.2.2.1 + 11) + 100 * d' ≤ R.locals
    have := hR.2.1
    omega
  · exact pay_in hts (fun w hw => by
      rcases List.mem_cons.mp hw with rfl | hw
      · exact zgw_good _ m2
      · exact zgw_good _ hw)
  · intro sig hs
    rw [hs] at m5
    exact (Option.some.inj m5).symm
theorem zfit_cells {n nE' d' : Nat} (hR : zFit R n0 nE' d') (hn : n0 ≤ n) (hn' : n ≤ nE') : n - n0 + (nE' - n) ≤ R.cells ∧ zSL n - zSL n0 + (zSL nE' - zSL n) ≤ R.slots := by
  have z1 := zSL_le hn
  have z2 := zSL_le hn'
  have := hR.2.2.1
  have := hR.2.2.2
  constructor <;> omega
theorem wq_callV {idx nE' d' a c : Nat} {M' : zM} {T9 : u_T} {As stk : List zV} {Q' : Option zV → zHp → Prop} (kP : Nat) (hm : zMd M' kP) (hi : Cond.instanceMethod M'.1 ∈ zgw) (hse : Cond.selects M'.1.cls M'.1 M'.1 ∈ zgw) (hlk : Cond.methodLink M.1.cls idx M'.1 ∈ zgw) (hc : zcl[c]? = some (M'.1.cls, T9, zN c)) (ht : zT n a = (100 + c, zN c)) (hst : stk = As.reverse ++ vR a :: st) (hk : As.length = kP) (hsz : zsz (vR a :: As) ≤ M'.2.2.1) (hcat : (st.map zcat).sum ≤ 8) (hn' : n ≤ nE') (hR : zFit R n0 nE' d') (d : decode M.2.1 pc = .ok (.invokevirtual idx, 3))
    (hw : wp G d' n nE' M' n 0 (zar 0 (vR a :: As)) [] h Q') (k : ∀ (v : Option zV) (h' : zHp), Q' v h' → (∀ x ∈ v.toList, zok x) → wq G R Z X M n0 nE' (pc + 3) ls (v.toList ++ st) h') : wq G R Z X M n0 n pc ls stk h := by
  intro p e s m args below meth c9 H locs lr hX hH hl hn h1 h2
  subst hst
  have hok : ∀ v ∈ vR a :: As, zok v := zcons trivial (fun w hw => h2 w (List.mem_append_left _ (List.mem_reverse.mpr hw)))
  have hst : ∀ v ∈ st, zok v := fun w hw => h2 w (List.mem_append_right _ (List.mem_cons_of_mem _ hw))
  have hM := zMet hw hok hm.1 hsz
  obtain ⟨q1, q2, q3⟩ := zT_at ht (by simp only; omega)
  have he := zl_get (G := G) (h := h) q1 q2
  rw [q3, zent_o] at he
  have hK := hX.2.2.2.2.2.2.2.2.1
  refine zcall_go (d' := d') (a9 := ((vR a :: As).map (zv G.2.1)).toArray) hn' hX hH hl hn h1 hst ?_ k
  exact va_runV (C := M'.1.cls) (b := G.2.1 + a) (As := As.map (zv G.2.1)) (rest := st.map (zv G.2.1)) (g := F0 m pc lr ((As.reverse ++ vR a :: st).map (zv G.2.1))) ⟨hX.1, hX.2.1, hX.2.2.2.2.1, hX.2.2.2.2.2.1, hX.2.2.2.2.2.2.1⟩ hM ⟨zcB hX.2.2.2.2.2.2.1 hm hlk hR, hX.2.2.2.2.2.2.1 _ hi, hX.2.2.2.2.2.2.1 _ hse⟩
    ⟨zPc_blind, va_recv hK.1 hH.1.1 hc he, fun U hU hW => ⟨rfl, by rw [hU]; exact hH.1, hK.moved hW⟩⟩ rfl (by rw [List.length_map]; exact hk) hl.1 (by simp [zv]) (lv_room (by
      have e : ((st.map (zv G.2.1)).map fun v => v.category) = st.map zcat := by rw [List.map_map]; exact List.map_congr_left (fun v _ => zcat_v _ v)
      rw [e]; exact hcat)) d (zfit_cells hR hn hn')
theorem wq_callS {idx nE' d' : Nat} {M' : zM} {As stk : List zV} {Q' : Option zV → zHp → Prop} (kP : Nat) (hm : zMd M' kP) (hs : Cond.static M'.1 ∈ zgw) (hlk : Cond.methodLink M.1.cls idx M'.1 ∈ zgw) (hst : stk = As.reverse ++ st) (hk : As.length = kP) (hsz : zsz As ≤ M'.2.2.1) (hcat : (st.map zcat).sum ≤ 8) (hn' : n ≤ nE') (hR : zFit R n0 nE' d') (d : decode M.2.1 pc = .ok (.invokestatic idx, 3))
    (hw : wp G d' n nE' M' n 0 (zar 0 As) [] h Q') (k : ∀ (v : Option zV) (h' : zHp), Q' v h' → (∀ x ∈ v.toList, zok x) → wq G R Z X M n0 nE' (pc + 3) ls (v.toList ++ st) h') : wq G R Z X M n0 n pc ls stk h := by
  intro p e s m args below meth c9 H locs lr hX hH hl hn h1 h2
  subst hst
  have hok : ∀ v ∈ As, zok v := fun w hw => h2 w (List.mem_append_left _ (List.mem_reverse.mpr hw))
  have hst : ∀ v ∈ st, zok v := fun w hw => h2 w (List.mem_append_right _ hw)
  have hM := zMet hw hok hm.1 hsz
  have hK := hX.2.2.2.2.2.2.2.2.1
  refine zcall_go (d' := d') (a9 := (As.map (zv G.2.1)).toArray) hn' hX hH hl hn h1 hst ?_ k
  exact va_runS (As := As.map (zv G.2.1)) (rest := st.map (zv G.2.1)) (g := F0 m pc lr ((As.reverse ++ st).map (zv G.2.1))) ⟨hX.1, hX.2.1, hX.2.2.2.2.1, hX.2.2.2.2.2.1, hX.2.2.2.2.2.2.1⟩ hM ⟨zcB hX.2.2.2.2.2.2.1 hm hlk hR, hX.2.2.2.2.2.2.1 _ hs⟩
    ⟨zPc_blind, fun U hU hW => ⟨rfl, by rw [hU]; exact hH.1, hK.moved hW⟩⟩ rfl (by rw [List.length_map]; exact hk) hl.1 (by simp) (lv_room (by
      have e : ((st.map (zv G.2.1)).map fun v => v.category) = st.map zcat := by rw [List.map_map]; exact List.map_congr_left (fun v _ => zcat_v _ v)
      rw [e]; exact hcat)) d (zfit_cells hR hn hn')
theorem wq_callI {idx nE' d' a : Nat} {M' : zM} {As stk : List zV} {Q' : Option zV → zHp → Prop} (kP : Nat) (hm : zMd M' kP) (hret : M'.2.2.2 = none) (hnm : M'.1.name = "<init>") (hi : Cond.instanceMethod M'.1 ∈ zgw) (hlk : Cond.methodLink M.1.cls idx M'.1 ∈ zgw) (hst : stk = As.reverse ++ vR a :: st) (hk : As.length = kP) (hsz : zsz (vR a :: As) ≤ M'.2.2.1) (hcat : (st.map zcat).sum ≤ 8) (hn' : n ≤ nE') (hR : zFit R n0 nE' d') (d : decode M.2.1 pc = .ok (.invokespecial idx, 3))
    (hw : wp G d' n nE' M' n 0 (zar 0 (vR a :: As)) [] h Q') (k : ∀ (v : Option zV) (h' : zHp), Q' v h' → (∀ x ∈ v.toList, zok x) → wq G R Z X M n0 nE' (pc + 3) ls (v.toList ++ st) h') : wq G R Z X M n0 n pc ls stk h := by
  intro p e s m args below meth c9 H locs lr hX hH hl hn h1 h2
  subst hst
  have hok : ∀ v ∈ vR a :: As, zok v := zcons trivial (fun w hw => h2 w (List.mem_append_left _ (List.mem_reverse.mpr hw)))
  have hst : ∀ v ∈ st, zok v := fun w hw => h2 w (List.mem_append_right _ (List.mem_cons_of_mem _ hw))
  have hM := zMet hw hok hm.1 hsz
  have hK := hX.2.2.2.2.2.2.2.2.1
  have cb := zcB (R := R) (n := n) hX.2.2.2.2.2.2.1 hm hlk hR
  rw [hret] at hM cb
  refine zcall_go (d' := d') (a9 := ((vR a :: As).map (zv G.2.1)).toArray) hn' hX hH hl hn h1 hst ?_ k
  exact va_runI (b := G.2.1 + a) (As := As.map (zv G.2.1)) (rest := st.map (zv G.2.1)) (g := F0 m pc lr ((As.reverse ++ vR a :: st).map (zv G.2.1))) ⟨hX.1, hX.2.1, hX.2.2.2.2.1, hX.2.2.2.2.2.1, hX.2.2.2.2.2.2.1⟩ hM ⟨cb, hnm, hX.2.2.2.2.2.2.1 _ hi⟩
    ⟨zPc_blind, fun U hU hW => ⟨rfl, by rw [hU]; exact hH.1, hK.moved hW⟩⟩ rfl (by rw [List.length_map]; exact hk) hl.1 (by simp [zv]) (lv_room (by
      have e : ((st.map (zv G.2.1)).map fun v => v.category) = st.map zcat := by rw [List.map_map]; exact List.map_congr_left (fun v _ => zcat_v _ v)
      rw [e]; exact hcat)) d (zfit_cells hR hn hn')
theorem wq_objInit {idx a : Nat} (hlk : Cond.methodLink M.1.cls idx Lib.objectInit ∈ zgw) (hi : Cond.instanceMethod Lib.objectInit ∈ zgw) (hcd : Cond.code Lib.objectInit ⟨#[0xb1]⟩ 1 none ∈ zgw) (hcat : (st.map zcat).sum ≤ 8) (hf : 1 ≤ R.frames) (hlo : 20 ≤ R.locals) (d : decode M.2.1 pc = .ok (.invokespecial idx, 3)) (k : wq G R Z X M n0 n (pc + 3) ls st h) : wq G R Z X M n0 n pc ls (vR a :: st) h := by
  intro p e s m args below meth c9 H locs lr hX hH hl hn h1 h2
  have hts := hX.2.2.2.2.2.2.1
  refine W.objInit hX.1 hX.2.1 hX.2.2.2.2.2.1 (hts _ hlk) (hts _ hi) (hts _ hcd) rfl (by rw [hX.2.2.2.2.1]; exact hl.1) rfl d hf ?_ (k p e s m args below meth c9 H locs lr hX hH hl hn h1 (ztl h2))
  have e : ((st.map (zv G.2.1)).map fun v => v.category) = st.map zcat := by rw [List.map_map]; exact List.map_congr_left (fun v _ => zcat_v _ v)
  show 2 * 0 + ((st.map (zv G.2.1)).map fun v => v.category).sum + 12 ≤ R.locals
  rw [e]
  omega
end CALLS
section RETS
variable {G : zG} {d n0 nE : Nat} {M : zM} {pc : Nat} {ls : zLs} {h : zHp} {Q : Option zV → zHp → Prop}
theorem zret_q {v : Option zV} {p : Program} {s : State} {m : MethodId} {args : Array Value} {meth : Method} {c : Code} {H : Heap} {locs : List Loc} (hH : zH G n0 nE h s H locs) (hv : ∀ x ∈ v.toList, zok x) (hq : Q v h) : ∀ t : State, t.heap = H → s.WarmedH t.vm → zQc G nE Q args s (.returned (v.map (zv G.2.1))) t :=
  fun t ht hW => ⟨v, h, rfl, hq, hv, by rw [ht]; exact hH.1, hH.2.1.F ht⟩
theorem wp_iret {z : Int} (hr : M.2.2.2 = some .int) (dd : decode M.2.1 pc = .ok (.ireturn, 1)) (k : Q (some (vI z)) h) : wp G d n0 nE M nE pc ls [vI z] h Q := by
  intro p e s m args below meth c H locs lr hX hH hl hn h1 h2
  have hlocks : meth.locks = false := hX.2.2.2.1
  exact W.iret (v := Int32.ofInt z) hX.1 hX.2.1 (hX.2.2.1.trans hr) (zret_q (v := some (vI z)) (p := p) (m := m) (meth := meth) (c := c) hH (fun x hx => h2 x hx) k) hH.2.1.2.2 dd
theorem wp_zret {z : Int} (hz : z = 0 ∨ z = 1) (hr : M.2.2.2 = some .boolean) (dd : decode M.2.1 pc = .ok (.ireturn, 1)) (k : Q (some (vI z)) h) : wp G d n0 nE M nE pc ls [vI z] h Q := by
  intro p e s m args below meth c H locs lr hX hH hl hn h1 h2
  have hlocks : meth.locks = false := hX.2.2.2.1
  exact W.zret (v := Int32.ofInt z) hX.1 hX.2.1 (hX.2.2.1.trans hr) (by rcases hz with rfl | rfl <;> rfl) (zret_q (v := some (vI z)) (p := p) (m := m) (meth := meth) (c := c) hH (fun x hx => h2 x hx) k) hH.2.1.2.2 dd
theorem wp_lret {z : Int} (hr : M.2.2.2 = some .long) (dd : decode M.2.1 pc = .ok (.lreturn, 1)) (k : Q (some (vL z)) h) : wp G d n0 nE M nE pc ls [vL z] h Q := by
  intro p e s m args below meth c H locs lr hX hH hl hn h1 h2
  have hlocks : meth.locks = false := hX.2.2.2.1
  exact W.lret (v := Int64.ofInt z) hX.1 hX.2.1 (hX.2.2.1.trans hr) (zret_q (v := some (vL z)) (p := p) (m := m) (meth := meth) (c := c) hH (fun x hx => h2 x hx) k) hH.2.1.2.2 dd
theorem wp_vret (hr : M.2.2.2 = none) (dd : decode M.2.1 pc = .ok (.return_, 1)) (k : Q none h) : wp G d n0 nE M nE pc ls [] h Q := by
  intro p e s m args below meth c H locs lr hX hH hl hn h1 h2
  have hlocks : meth.locks = false := hX.2.2.2.1
  exact W.vret hX.1 hX.2.1 (hX.2.2.1.trans hr) (zret_q (v := none) (p := p) (m := m) (meth := meth) (c := c) hH (fun x hx => by cases hx) k) hH.2.1.2.2 dd
end RETS
