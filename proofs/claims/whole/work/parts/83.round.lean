/-! rounds of updates: pure part, and the program -/
def fdX (bs : List Int) (fd : List Int × List Int) : Int := ckX (fd.1.getD 2 0) (tg bs) (fd.1.getD 4 0) (fd.1.getD 5 0)
def fdW (bs : List Int) (fd : List Int × List Int) : Bool := decide (2 ≤ fd.1.getD 2 0) && decide (fdV bs fd ≠ fdX bs fd)
def fdU (bs : List Int) (fd : List Int × List Int) (v : Int) : List Int := wrL bs (fd.1.getD 0 0) (fd.1.getD 1 0) (fd.1.getD 3 0) v
def upFs : List (List Int × List Int) → List Int → List Int × Bool
  | [], bs => (bs, false)
  | fd :: F, bs => if fdW bs fd = true then ((upFs F (fdU bs fd (fdX bs fd))).1, true) else upFs F bs
def ovA (D : List Int × List (Int × Int)) (o : Nat) : Int × Int := D.2.getD o (-1, 0)
def layD (Ts : Nat → List (List Int)) (D : List Int × List (Int × Int)) (o : Nat) : List (List Int × List Int) × (Int × Int) := layT (Ts (ovA D o).1.toNat) D.1 (ovA D o).2
def rndO (Ts : Nat → List (List Int)) (D : List Int × List (Int × Int)) : Nat → (List Int × List (Int × Int)) × Bool
  | 0 => (D, false)
  | o + 1 => if (ovA (rndO Ts D o).1 o).1 ≠ -1 then (((upFs (layD Ts (rndO Ts D o).1 o).1 (rndO Ts D o).1.1).1, (rndO Ts D o).1.2), (rndO Ts D o).2 || (upFs (layD Ts (rndO Ts D o).1 o).1 (rndO Ts D o).1.1).2) else rndO Ts D o
def rndD (Ts : Nat → List (List Int)) (D : List Int × List (Int × Int)) : (List Int × List (Int × Int)) × Bool := rndO Ts D 4
/-- a document value in order -/
def dvOk (D : List Int × List (Int × Int)) : Prop := D.1.length ≤ 200 ∧ byB D.1 ∧ D.2.length = 4 ∧ ∀ o, o < 4 → ovA D o = (-1, 0) ∨ ((0 ≤ (ovA D o).1 ∧ (ovA D o).1 ≤ 3) ∧ 0 ≤ (ovA D o).2 ∧ (ovA D o).2 ≤ D.1.length)
theorem ckE_congr {kind : Int} {f g : Nat → Int} {s : Int} : ∀ k : Nat, (∀ j : Nat, j < k → f (s + j).toNat = g (s + j).toNat) → ckE kind f s k = ckE kind g s k
  | 0, _ => rfl
  | k + 1, h => by rw [ckE, ckE, ckE_congr k (fun j hj => h j (by omega)), h k (by omega)]
theorem ckX_congr {kind : Int} {f g : Nat → Int} {s e : Int} (h0 : 0 ≤ s) (h : ∀ j : Nat, s ≤ j → (j : Int) < e → f j = g j) : ckX kind f s e = ckX kind g s e := by
  unfold ckX
  exact ckE_congr _ (fun j hj => h _ (by omega) (by omega))
theorem byteN_rng (v i : Int) : 0 ≤ byteN v i ∧ byteN v i ≤ 255 := by unfold byteN; omega
theorem wrF_rng {f : Nat → Int} {s sz lit v : Int} {j : Nat} (hf : 0 ≤ f j ∧ f j ≤ 255) : ∀ k, 0 ≤ wrF f s sz lit v k j ∧ wrF f s sz lit v k j ≤ 255
  | 0 => hf
  | k + 1 => by
    rw [wrF]
    split
    · exact byteN_rng _ _
    · exact wrF_rng hf k
theorem wrL_len {bs : List Int} {s sz lit v : Int} : (wrL bs s sz lit v).length = bs.length := by unfold wrL; rw [lst_len]; omega
theorem wrL_by {bs : List Int} {s sz lit v : Int} (hb : byB bs) : byB (wrL bs s sz lit v) := fun c hc => by
  obtain ⟨j, hj, e⟩ := lst_mem hc
  rw [e]
  exact wrF_rng (tg_byB hb (by omega)) _
theorem upFs_ok : ∀ (F : List (List Int × List Int)) (bs : List Int), byB bs → (upFs F bs).1.length = bs.length ∧ byB (upFs F bs).1
  | [], bs, h => ⟨rfl, h⟩
  | fd :: F, bs, h => by
    rw [upFs]
    split
    · obtain ⟨a, b⟩ := upFs_ok F (fdU bs fd (fdX bs fd)) (wrL_by h)
      exact ⟨by rw [a]; exact wrL_len, b⟩
    · exact upFs_ok F bs h
theorem rndO_ok {Ts : Nat → List (List Int)} {D : List Int × List (Int × Int)} (h : dvOk D) : ∀ o, (rndO Ts D o).1.2 = D.2 ∧ (rndO Ts D o).1.1.length = D.1.length ∧ dvOk (rndO Ts D o).1
  | 0 => ⟨rfl, rfl, h⟩
  | o + 1 => by
    obtain ⟨a, b, c⟩ := rndO_ok (Ts := Ts) h o
    rw [rndO]
    split
    · obtain ⟨u1, u2⟩ := upFs_ok (layD Ts (rndO Ts D o).1 o).1 (rndO Ts D o).1.1 c.2.1
      generalize upFs (layD Ts (rndO Ts D o).1 o).1 (rndO Ts D o).1.1 = U at u1 u2 ⊢
      refine ⟨a, u1.trans b, ?_, u2, c.2.2.1, fun x hx => ?_⟩
      · show U.1.length ≤ 200
        rw [u1]; exact c.1
      · have q := c.2.2.2 x hx
        show ovA (rndO Ts D o).1 x = (-1, 0) ∨ ((0 ≤ (ovA (rndO Ts D o).1 x).1 ∧ (ovA (rndO Ts D o).1 x).1 ≤ 3) ∧ 0 ≤ (ovA (rndO Ts D o).1 x).2 ∧ (ovA (rndO Ts D o).1 x).2 ≤ (U.1.length : Int))
        rw [u1]; exact q
    · exact ⟨a, b, c⟩
theorem dvOk_8 {h : zHp} (k : dOk h 8) : dvOk (dv h 8) := by
  have l := dv8_len k
  have l2 : gI h 9 1 ≤ 200 := k.1.2
  refine ⟨by omega, fun c hc => ?_, rfl, fun o ho => ?_⟩
  · obtain ⟨j, hj, e⟩ := lst_mem hc
    rw [e]
    exact k.2.1 j (by have hj' : (j : Int) < gI h 9 1 := hj; omega)
  · have e : ovA (dv h 8) o = (gI h 11 o, gI h 12 o) := by
      unfold ovA dv dOv
      rw [List.getD_eq_getElem?_getD, List.getElem?_map, List.getElem?_range ho]
      rfl
    rw [e]
    rcases k.2.2 o ho with ⟨q1, q2⟩ | q
    · exact Or.inl (by rw [show gI h 11 o = -1 from q1, show gI h 12 o = 0 from q2])
    · exact Or.inr ⟨q.1, q.2.1, by show gI h 12 o ≤ _; rw [l]; exact q.2.2⟩
theorem ovA_8 {h : zHp} {o : Nat} (ho : o < 4) : ovA (dv h 8) o = (gI h 11 o, gI h 12 o) := by
  unfold ovA dv dOv
  rw [List.getD_eq_getElem?_getD, List.getElem?_map, List.getElem?_range ho]
  rfl
/-- the templates of the program hold these values -/
def xTs (h : zHp) (Ts : Nat → List (List Int)) : Prop := ∀ t, t < 4 → zT 369 (gR h 80 t) = (108, 2) ∧ xT h (gR h 80 t) = Ts t ∧ tOk (Ts t)
theorem xTs_F {h h' : zHp} {Ts : Nat → List (List Int)} (eR : ∀ j, gR h' 80 j = gR h 80 j) (e : ∀ b j, 81 ≤ b → b ≤ 210 → gI h' b j = gI h b j) (x : xTs h Ts) : xTs h' Ts := fun t ht => by
  obtain ⟨a, b, c⟩ := x t ht
  have la := ztmp a
  rw [eR]
  refine ⟨a, ?_, c⟩
  have hu : gI h (gR h 80 t) 1 ≤ 24 := by
    have := xT_len (h := h) (a := gR h 80 t)
    rw [b] at this
    have := c.1
    omega
  rw [xT_I (h' := h') (h := h) (e _ _ (by omega) (by omega)) (fun b j _ _ => e _ _ (by omega) (by omega)) hu, b]
def ovP (D : List Int × List (Int × Int)) (o : Int) : Prop := 0 ≤ o ∧ o < 4 ∧ (ovA D o.toNat).1 ≠ -1
theorem xCf_8 {h h' : zHp} (F : xCf h h') (k : dOk h 8) : dOk h' 8 ∧ dv h' 8 = dv h 8 := by
  have f3 : zF3 (fun b => b = 215 ∨ (217 ≤ b ∧ b ≤ 340)) h h' := fun b hb => ⟨fun j => (F.1 b j (by omega)).1, fun j => (F.1 b j (by omega)).2, fun j => F.2 b j (by omega)⟩
  exact ⟨dOk_f3 f3 (by rintro b ⟨w1, w2⟩ w; omega) k, dv_f3 8 f3 (by rintro b ⟨w1, w2⟩ w; omega)⟩
theorem xCf_T {h h' : zHp} {Ts : Nat → List (List Int)} (F : xCf h h') (x : xTs h Ts) : xTs h' Ts := xTs_F (fun j => F.2 80 j (by omega)) (fun b j _ _ => (F.1 b j (by omega)).1) x
/-- the layout stands in the heap of the program -/
def xLd (h : zHp) (L : List (List Int × List Int) × (Int × Int)) : Prop := L = (xFs h, (gI h 215 2, gI h 215 3)) ∧ 0 ≤ gI h 215 1
section XROUND
variable {G : zG} {d : Nat} {Q : Option zV → zHp → Prop} {h : zHp} {Ts : Nat → List (List Int)} {D : List Int × List (Int × Int)}
theorem layD_ok (hT : ∀ t, t < 4 → tOk (Ts t)) (hD : dvOk D) {o : Nat} (ho : o < 4) (hp : (ovA D o).1 ≠ -1) : (layD Ts D o).1.length ≤ 60 ∧ ∀ fd ∈ (layD Ts D o).1, fdOk D.1.length fd := by
  have q := hD.2.2.2 o ho
  have l := hD.1
  rcases q with q | q
  · rw [q] at hp; exact absurd rfl hp
  · exact layT_ok (hT _ (by omega)) l q.2.1 (by omega)
theorem sp_layOut {o : Int} (hd : 11 ≤ d) (hS : zSh h) (h8 : dOk h 8) (eD : dv h 8 = D) (xt : xTs h Ts) (k0 : ¬ ovP D o → Q (some (vI 0)) h)
    (k1 : ∀ h', ovP D o → zSh h' → xCf h h' → xLd h' (layD Ts D o.toNat) → Q (some (vI 1)) h') : wpN G d M_X10_layOut 0 (zar 0 [vR 1, vI o]) [] h Q := by
  refine vc_X10_layOut_0 o h hS (by omega) (sp_X2_isPresent tT_8 hS (fun r er => qI_i ⟨hS, fun z => ?_, fun z => k0 (fun w => ?_)⟩))
  · have ho : 0 ≤ o ∧ o < 4 ∧ gI h 11 o.toNat ≠ -1 := by
      unfold dHas at er
      split at er
      · rename_i w; exact w
      · exact absurd er z
    have oa : ovA D o.toNat = (gI h 11 o.toNat, gI h 12 o.toNat) := by rw [← eD]; exact ovA_8 (by omega)
    have dq := (dvOk_8 h8).2.2.2 o.toNat (by omega)
    rw [eD, oa] at dq
    have l := dv8_len h8
    rw [eD] at l
    have l2 : gI h 9 1 ≤ 200 := h8.1.2
    have dq : (0 ≤ gI h 11 o.toNat ∧ gI h 11 o.toNat ≤ 3) ∧ 0 ≤ gI h 12 o.toNat ∧ gI h 12 o.toNat ≤ D.1.length := by
      rcases dq with w | w
      · have := congrArg Prod.fst w
        exact absurd this ho.2.2
      · exact w
    refine ⟨⟨ho.1, ho.2.1⟩, fun x6 e6 => sp_X10_isWithin hS (fun r2 hr2 => qI_i ⟨hS, fun z2 => ?_, fun z2 => ?_⟩)⟩
    · rw [e6]
      obtain ⟨t1, t2, t3⟩ := xt (gI h 11 o.toNat).toNat (by omega)
      refine ⟨⟨by omega, by omega⟩, t1, ⟨ho.1, ho.2.1⟩, sp_compute (by omega) hS h8 t1 t2 t3 (congrArg Prod.fst eD) dq.2.1 (by omega) (fun h' s' C L p => qV_i ⟨s', k1 h' ⟨ho.1, ho.2.1, by rw [oa]; exact ho.2.2⟩ s' C ⟨?_, p⟩⟩)⟩
      unfold layD
      rw [oa]
      exact L
    · exfalso
      rw [e6] at hr2
      rcases hr2 with w | w <;> omega
  · have oa : ovA D o.toNat = (gI h 11 o.toNat, gI h 12 o.toNat) := by rw [← eD]; exact ovA_8 (by have := w.1; have := w.2.1; omega)
    have w3 := w.2.2
    rw [oa] at w3
    unfold dHas at er
    rw [if_pos ⟨w.1, w.2.1, w3⟩] at er
    omega
/-- field i of the program and its value -/
theorem xfd {bs : List Int} {F : List (List Int × List Int)} {i : Nat} (h8 : dOk h 8) (eb : (dv h 8).1 = bs) (eF : xFs h = F) (p : 0 ≤ gI h 215 1) (hF : ∀ fd ∈ F, fdOk bs.length fd) (hi : i < F.length) : F[i]? = some (xFl h i) ∧ fOk h 9 (217 + 2 * i) ∧ fV h 9 (217 + 2 * i) = fdV bs (xFl h i) ∧ (2 ≤ gI h (217 + 2 * i) 2 → fExp h 9 (217 + 2 * i) = fdX bs (xFl h i)) ∧ fdOk bs.length (xFl h i) ∧ gI h (217 + 2 * i) 6 ≤ 4 := by
  have l := dv8_len h8
  rw [eb] at l
  have hl : F.length = (gI h 215 1).toNat := by rw [← eF, xFs_len]
  have g : F[i]? = some (xFl h i) := by rw [← eF, xFs, List.getElem?_map, List.getElem?_range (by omega)]; rfl
  have m : xFl h i ∈ F := List.mem_of_getElem? g
  have ok := hF _ m
  obtain ⟨a1, a2⟩ := xFl_ok ok l
  have tgb : ∀ j : Nat, (j : Int) < gI h 9 1 → tg bs j = gI h 10 j := fun j hj => by
    rw [← eb]
    show tg (lst (gI h 10) (gI h 9 1)) j = _
    exact lst_tg (i := (j : Int)) (by omega) hj
  refine ⟨g, a1, ?_, fun k2 => ?_, ok, a2⟩
  · obtain ⟨⟨y1, y2, y3⟩, _⟩ := a1
    show fVal (gI h 10) _ _ _ _ = fVal (tg bs) (gI h (217 + 2 * i) 0) (gI h (217 + 2 * i) 1) (gI h (217 + 2 * i) 2) (gI h (217 + 2 * i) 3)
    exact fVal_congr y2 (by rcases y1 with w | w | w <;> omega) (fun j hj hj2 => (tgb j (by omega)).symm)
  · obtain ⟨_, c2, c3, c4⟩ := fOk_ck a1 k2
    show ckX _ (gI h 10) _ _ = ckX (gI h (217 + 2 * i) 2) (tg bs) (gI h (217 + 2 * i) 4) (gI h (217 + 2 * i) 5)
    exact ckX_congr c2 (fun j hj hj2 => (tgb j (by omega)).symm)
theorem fdW_iff {bs : List Int} {fd : List Int × List Int} : fdW bs fd = true ↔ 2 ≤ fd.1.getD 2 0 ∧ fdV bs fd ≠ fdX bs fd := by simp [fdW]
theorem x9ok (h8 : dOk h 8) : rOk h 9 ∧ byOk (gI h 10) (gI h 9 1) := by
  refine ⟨⟨h8.1.1, by rw [show zlen (9 + 1) = 200 from zdocL zT_8]; exact h8.1.2⟩, fun j hj => h8.2.1 j ?_⟩
  have : gI h 9 1 ≤ 200 := h8.1.2
  show j < 200
  omega
/-- a field written -/
theorem xwr {bs : List Int} {s sz lit v : Int} (h8 : dOk h 8) (eb : (dv h 8).1 = bs) (hs : fSz sz) (s0 : 0 ≤ s) (s1 : s + sz ≤ gI h 9 1) : zFr (fun b => b = 10) h (rWr h 9 s sz lit v sz.toNat) ∧ dOk (rWr h 9 s sz lit v sz.toNat) 8 ∧ dv (rWr h 9 s sz lit v sz.toNat) 8 = (wrL bs s sz lit v, (dv h 8).2) := by
  have at10 : ∀ k : Nat, (k : Int) ≤ sz → ∀ j, gI (rWr h 9 s sz lit v k) 10 j = wrF (gI h 10) s sz lit v k j := by
    intro k
    induction k with
    | zero => intro _ j; rfl
    | succ k ih =>
      intro hk j
      have n9 : gI (rWr h 9 s sz lit v k) 9 1 = gI h 9 1 := rWr_ne (by omega) k
      have wp : 0 ≤ wrP s sz lit k ∧ wrP s sz lit k < gI h 9 1 := by unfold wrP; split <;> omega
      rw [rWr, rPut, n9, if_pos wp, wrF, gI_sI]
      by_cases q : j = (wrP s sz lit k).toNat
      · rw [if_pos ⟨rfl, q⟩, if_pos q]
      · rw [if_neg (fun w => q w.2), if_neg q, ih (by omega) j]
  have hk : ((sz.toNat : Nat) : Int) ≤ sz := by rcases hs with w | w | w <;> omega
  have ne : ∀ b j, b ≠ 10 → gI (rWr h 9 s sz lit v sz.toNat) b j = gI h b j := fun b j q => rWr_ne (by omega) _
  have oL : ∀ k b j, gL (rWr h 9 s sz lit v k) b j = gL h b j ∧ gR (rWr h 9 s sz lit v k) b j = gR h b j := by
    intro k
    induction k with
    | zero => intro b j; exact ⟨rfl, rfl⟩
    | succ k ih =>
      intro b j
      rw [rWr, rPut]
      split
      · exact ih b j
      · exact ih b j
  have F : zFr (fun b => b = 10) h (rWr h 9 s sz lit v sz.toNat) := ⟨fun b j q => ne b j q, fun b j => (oL _ b j).1, fun b j => (oL _ b j).2⟩
  refine ⟨F, ⟨?_, fun j hj => ?_, fun o ho => ?_⟩, ?_⟩
  · rw [show (8 + 1 : Nat) = 9 from rfl, ne 9 1 (by omega)]; exact h8.1
  · rw [show (8 + 2 : Nat) = 10 from rfl, at10 _ hk]; exact wrF_rng (h8.2.1 j hj) _
  · rw [show (8 + 3 : Nat) = 11 from rfl, show (8 + 4 : Nat) = 12 from rfl, show (8 + 1 : Nat) = 9 from rfl, ne _ _ (by omega), ne _ _ (by omega), ne _ _ (by omega)]; exact h8.2.2 o ho
  · have e1 : lst (gI (rWr h 9 s sz lit v sz.toNat) 10) (gI (rWr h 9 s sz lit v sz.toNat) 9 1) = wrL bs s sz lit v := by
      rw [← eb]
      show _ = wrL (lst (gI h 10) (gI h 9 1)) s sz lit v
      rw [← wrF_lst h8.1.1]
      exact lst_eq (ne 9 1 (by omega)) (fun j _ => at10 _ hk j)
    have e2 : dOv (rWr h 9 s sz lit v sz.toNat) 8 = dOv h 8 := by
      unfold dOv
      refine List.map_congr_left (fun o _ => ?_)
      rw [show (8 + 3 : Nat) = 11 from rfl, show (8 + 4 : Nat) = 12 from rfl, ne 11 o (by omega), ne 12 o (by omega)]
    show (lst (gI (rWr h 9 s sz lit v sz.toNat) 10) (gI (rWr h 9 s sz lit v sz.toNat) 9 1), dOv (rWr h 9 s sz lit v sz.toNat) 8) = _
    rw [e1, e2]
    rfl
theorem sp_updW {F : List (List Int × List Int)} {bs : List Int} (hd : 3 ≤ d) (hS : zSh h) (h8 : dOk h 8) (eb : (dv h 8).1 = bs) (eF : xFs h = F) (p : 0 ≤ gI h 215 1) (l60 : F.length ≤ 60) (hF : ∀ fd ∈ F, fdOk bs.length fd)
    (k : ∀ h', zSh h' → zFr (fun b => b = 10) h h' → dOk h' 8 → dv h' 8 = ((upFs F bs).1, (dv h 8).2) → Q (some (vI (if (upFs F bs).2 = true then 1 else 0))) h') : wpN G d M_X10_updateWrongFields 0 (zar 0 [vR 1]) [] h Q := by
  have hl : F.length = (gI h 215 1).toNat := by rw [← eF, xFs_len]
  have loop : ∀ (m i : Nat) (g : zHp) (b : List Int) (ch : Bool), i + m = F.length → zSh g → zFr (fun b => b = 10) h g → dOk g 8 → dv g 8 = (b, (dv h 8).2) → b.length = bs.length → (upFs F bs).1 = (upFs (F.drop i) b).1 → (upFs F bs).2 = (ch || (upFs (F.drop i) b).2) → wpN G d M_X10_updateWrongFields 4 [(0, vR 1), (1, vI (if ch = true then 1 else 0)), (2, vI (i : Int))] [] g Q := by
    intro m
    induction m with
    | zero =>
      intro i g b ch hi sg Fr g8 eg lb e1 e2
      have n1 : gI g 215 1 = gI h 215 1 := Fr.1 _ _ (by omega)
      have dn : F.drop i = [] := List.drop_eq_nil_of_le (by omega)
      rw [dn] at e1 e2
      refine vc_X10_updateWrongFields_4 _ i g sg hd (fun _ _ _ => False) (fun _ _ _ w => w.elim) ⟨fun _ => ⟨by split <;> simp, ?_⟩, fun c => by omega⟩
      have := k g sg Fr g8 (by rw [eg, e1]; rfl)
      rw [e2] at this
      simp only [upFs, Bool.or_false] at this
      exact this
    | succ m ih =>
      intro i g b ch hi sg Fr g8 eg lb e1 e2
      have n1 : gI g 215 1 = gI h 215 1 := Fr.1 _ _ (by omega)
      have eFg : xFs g = F := by rw [← eF]; exact xFs_I n1 (fun b j _ _ => Fr.1 _ _ (by omega)) (by omega)
      have hF' : ∀ fd ∈ F, fdOk b.length fd := fun fd hfd => by rw [lb]; exact hF fd hfd
      obtain ⟨q1, q2, q3, q4, q5, q6⟩ := xfd g8 (congrArg Prod.fst eg) eFg (by omega) hF' (show i < F.length by omega)
      obtain ⟨r1, r2⟩ := x9ok g8
      have dr : F.drop i = xFl g i :: F.drop (i + 1) := by
        have hh := List.getElem?_eq_some_iff.mp q1
        obtain ⟨hx, he⟩ := hh
        rw [List.drop_eq_getElem_cons hx, he]
      rw [dr, upFs] at e1 e2
      refine vc_X10_updateWrongFields_4 _ i g sg hd (fun y1 y2 g' => y2 = ((i + 1 : Nat) : Int) ∧ wpN G d M_X10_updateWrongFields 4 [(0, vR 1), (1, vI y1), (2, vI ((i + 1 : Nat) : Int))] [] g' Q) ?_ ⟨fun c => by omega, fun c => ?_⟩
      · rintro _ _ _ ⟨z0, z1⟩
        rw [z0]
        exact z1
      · rw [show (i : Int).toNat = i by omega]
        refine ⟨⟨by omega, by omega⟩, sp_X1_isWrong (by omega) tT_9 (zfds (by omega)) sg r1 r2 q2 (fun w => qI_i ⟨sg, fun z => absurd z (by omega), fun _ => ?_⟩) (fun w => qI_i ⟨sg, fun _ => ⟨by omega, fun x7 e7 _ => ⟨by omega, ?_⟩⟩, fun z => absurd rfl z⟩)⟩
        · have fw : fdW b (xFl g i) = true := fdW_iff.mpr ⟨w.1, by rw [← q3, ← q4 w.1]; exact w.2⟩
          have ck := fOk_ck q2 w.1
          have er := fExp_rng (f := 217 + 2 * i) (a := 9) r2 ck
          rw [if_pos fw] at e1 e2
          refine sp_X1_expectedOf (by omega) tT_9 (zfds (by omega)) sg r1 r2 ck (qI_i ⟨sg, sp_X0_write (by omega) tT_9 (zfds (by omega)) sg r1 q2.1 ⟨by omega, by omega⟩ (qV_i ⟨rWr_Sh sg _, by omega, fun x17 e17 _ => ⟨by omega, ?_⟩⟩)⟩)
          obtain ⟨y1, y2, y3⟩ := q2.1
          obtain ⟨X1, X2, X3⟩ := xwr (lit := gI g (217 + 2 * i) 3) (v := fExp g 9 (217 + 2 * i)) g8 (congrArg Prod.fst eg) y1 y2 y3
          refine ih (i + 1) _ (wrL b (gI g (217 + 2 * i) 0) (gI g (217 + 2 * i) 1) (gI g (217 + 2 * i) 3) (fExp g 9 (217 + 2 * i))) true (by omega) (X1.Sh sg) (Fr.tr X1) X2 (by rw [X3, eg]) (by rw [wrL_len, lb]) ?_ ?_
          · rw [e1, q4 w.1]; rfl
          · rw [e2]; simp
        · have fw : ¬ fdW b (xFl g i) = true := fun z => by
            have z2 := fdW_iff.mp z
            have k2 : 2 ≤ gI g (217 + 2 * i) 2 := z2.1
            exact w ⟨k2, by rw [q3, q4 k2]; exact z2.2⟩
          rw [if_neg fw] at e1 e2
          exact ih (i + 1) g b ch (by omega) sg Fr g8 eg lb e1 e2
  refine vc_X10_updateWrongFields_0 h hS hd (fun y1 y2 g => y1 = (if false = true then 1 else 0) ∧ y2 = ((0 : Nat) : Int) ∧ g = h) ?_ (fun _ => ⟨rfl, rfl, rfl⟩)
  rintro _ _ _ ⟨z0, z1, z2⟩
  rw [z0, z1, z2]
  exact loop F.length 0 h bs false (by omega) hS zFr.rf h8 (by rw [← eb]) rfl rfl (by simp)
/-- what rounds of the program leave as it was -/
def xRf (h h' : zHp) : Prop := (∀ b j, ¬ ((b = 215 ∧ 1 ≤ j ∧ j ≤ 7) ∨ (217 ≤ b ∧ b ≤ 340) ∨ b = 10) → gI h' b j = gI h b j ∧ gL h' b j = gL h b j) ∧ ∀ b j, ¬ (b = 215 ∧ j = 5) → gR h' b j = gR h b j
theorem xRf_rf : xRf h h := ⟨fun _ _ _ => ⟨rfl, rfl⟩, fun _ _ _ => rfl⟩
theorem xRf_tr {h1 h2 : zHp} (a : xRf h h1) (b : xRf h1 h2) : xRf h h2 := ⟨fun x j q => ⟨(b.1 x j q).1.trans (a.1 x j q).1, (b.1 x j q).2.trans (a.1 x j q).2⟩, fun x j q => (b.2 x j q).trans (a.2 x j q)⟩
theorem xRf_C {h' : zHp} (F : xCf h h') : xRf h h' := ⟨fun b j q => F.1 b j (fun w => q (by rcases w with w | w; exact Or.inl w; exact Or.inr (Or.inl w))), F.2⟩
theorem xRf_10 {h' : zHp} (F : zFr (fun b => b = 10) h h') : xRf h h' := ⟨fun b j q => ⟨F.1 b j (fun w => q (Or.inr (Or.inr w))), F.2.1 b j⟩, fun b j _ => F.2.2 b j⟩
theorem xRf_T {h' : zHp} (F : xRf h h') (x : xTs h Ts) : xTs h' Ts := xTs_F (fun j => F.2 80 j (by omega)) (fun b j _ _ => (F.1 b j (by omega)).1) x
theorem xRf_Sh {h' : zHp} (F : xRf h h') (hS : zSh h) : zSh h' := fun b j hx => by
  by_cases q : b = 215 ∧ j = 5
  · rw [q.1, q.2] at hx
    exact absurd (show zshp 215 5 = 0 by decide +kernel) hx
  · rw [F.2 b j q]; exact hS b j hx
theorem sp_updateRound (hd : 12 ≤ d) (hS : zSh h) (h8 : dOk h 8) (eD : dv h 8 = D) (xt : xTs h Ts)
    (k : ∀ h', zSh h' → xRf h h' → dOk h' 8 → dv h' 8 = (rndD Ts D).1 → Q (some (vI (if (rndD Ts D).2 = true then 1 else 0))) h') : wpN G d M_X10_updateRound 0 (zar 0 [vR 1]) [] h Q := by
  have hD : dvOk D := by rw [← eD]; exact dvOk_8 h8
  have hT : ∀ t, t < 4 → tOk (Ts t) := fun t ht => (xt t ht).2.2
  have loop : ∀ (m o : Nat) (g : zHp), o + m = 4 → zSh g → xRf h g → dOk g 8 → dv g 8 = (rndO Ts D o).1 → wpN G d M_X10_updateRound 4 [(0, vR 1), (1, vI (if (rndO Ts D o).2 = true then 1 else 0)), (2, vI (o : Int))] [] g Q := by
    intro m
    induction m with
    | zero =>
      intro o g ho sg F g8 eg
      have e4 : o = 4 := by omega
      rw [e4] at eg ⊢
      exact vc_X10_updateRound_4 _ _ g sg (by omega) (fun _ _ _ => False) (fun _ _ _ w => w.elim) ⟨fun _ => ⟨by split <;> simp, k g sg F g8 eg⟩, fun c => by omega⟩
    | succ m ih =>
      intro o g ho sg F g8 eg
      have xg := xRf_T F xt
      obtain ⟨u1, u2, u3⟩ := rndO_ok (Ts := Ts) hD o
      refine vc_X10_updateRound_4 _ o g sg (by omega) (fun y1 y2 g' => y2 = ((o + 1 : Nat) : Int) ∧ wpN G d M_X10_updateRound 4 [(0, vR 1), (1, vI y1), (2, vI ((o + 1 : Nat) : Int))] [] g' Q) ?_ ⟨fun c => by omega, fun c => ?_⟩
      · rintro _ _ _ ⟨z0, z1⟩
        rw [z0]
        exact z1
      · refine sp_layOut (by omega) sg g8 eg xg (fun np => qI_i ⟨sg, fun _ => ⟨by omega, fun x7 e7 _ => ⟨by omega, ?_⟩⟩, fun z => absurd rfl z⟩) (fun g2 op s2 C2 L2 => qI_i ⟨s2, fun z => absurd z (by omega), fun _ => ?_⟩)
        · have en : rndO Ts D (o + 1) = rndO Ts D o := by
            rw [rndO, if_neg]
            intro w
            exact np ⟨by omega, by omega, by rw [show (o : Int).toNat = o by omega]; exact w⟩
          have q := ih (o + 1) g (by omega) sg F g8 (by rw [en]; exact eg)
          rw [en] at q
          exact q
        · have op3 := op.2.2
          rw [show (o : Int).toNat = o by omega] at op3 L2
          have en : rndO Ts D (o + 1) = (((upFs (layD Ts (rndO Ts D o).1 o).1 (rndO Ts D o).1.1).1, (rndO Ts D o).1.2), (rndO Ts D o).2 || (upFs (layD Ts (rndO Ts D o).1 o).1 (rndO Ts D o).1.1).2) := by rw [rndO, if_pos op3]
          obtain ⟨c1, c2⟩ := xCf_8 C2 g8
          obtain ⟨l1, l2⟩ := layD_ok hT u3 (show o < 4 by omega) op3
          refine sp_updW (bs := (rndO Ts D o).1.1) (by omega) s2 c1 (by rw [c2, eg]) (congrArg Prod.fst L2.1).symm L2.2 l1 l2 (fun g3 s3 F3 g38 e3 => qI_i ⟨s3, fun z => ⟨by omega, fun x14 e14 _ => ⟨by omega, ?_⟩⟩, fun z => ⟨by omega, fun x16 e16 _ => ⟨by omega, ?_⟩⟩⟩)
          · have q := ih (o + 1) g3 (by omega) s3 (xRf_tr (xRf_tr F (xRf_C C2)) (xRf_10 F3)) g38 (by rw [en, e3, c2, eg])
            have nz : (upFs (layD Ts (rndO Ts D o).1 o).1 (rndO Ts D o).1.1).2 = false := by
              cases hh : (upFs (layD Ts (rndO Ts D o).1 o).1 (rndO Ts D o).1.1).2 with
              | false => rfl
              | true => rw [hh, if_pos rfl] at z; exact absurd z (by omega)
            rw [en] at q
            simp only [nz, Bool.or_false] at q
            exact q
          · have q := ih (o + 1) g3 (by omega) s3 (xRf_tr (xRf_tr F (xRf_C C2)) (xRf_10 F3)) g38 (by rw [en, e3, c2, eg])
            have nz : (upFs (layD Ts (rndO Ts D o).1 o).1 (rndO Ts D o).1.1).2 = true := by
              cases hh : (upFs (layD Ts (rndO Ts D o).1 o).1 (rndO Ts D o).1.1).2 with
              | true => rfl
              | false => rw [hh] at z; exact absurd rfl z
            rw [en] at q
            simp only [nz, Bool.or_true, if_true] at q
            exact q
  refine vc_X10_updateRound_0 h hS (by omega) (fun y1 y2 g => y1 = 0 ∧ y2 = ((0 : Nat) : Int) ∧ g = h) ?_ (fun _ => ⟨rfl, rfl, rfl⟩)
  rintro _ _ _ ⟨z0, z1, z2⟩
  rw [z0, z1, z2]
  exact loop 4 0 h rfl hS xRf_rf h8 eD
end XROUND
