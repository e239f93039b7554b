/-! the changes of the model -/
section MCHG
variable {G : zG} {d : Nat} {Q : Option zV → zHp → Prop} {h : zHp} {s : zSt}
theorem MM_8 {D : zDc} (x : MM h s D) : zSh h ∧ mdOk h 344 0 ∧ mv h 344 0 = D := ⟨x.1.1, x.2.1.1.2.2.2.1, x.2.1.2.1⟩
theorem mv_c {D : zDc} (h8 : mdOk h 344 0) (e : mv h 344 0 = D) : ((D.1.length : Int) = gI h 344 200) ∧ D.1 = lst (gI h 344) (gI h 344 200) ∧ (∀ o, o < 4 → D.2.getD o (-1, 0) = if gI h 344 (201 + 3 * o) = 1 then (gI h 344 (202 + 3 * o), gI h 344 (203 + 3 * o)) else (-1, 0)) ∧ D.2.length = 4 := by
  have e1 : D.1 = lst (gI h 344) (gI h 344 200) := by
    rw [← e]
    exact lst_eq rfl (fun j _ => by rw [Nat.zero_add])
  have q : 0 ≤ gI h 344 200 := h8.1.1
  refine ⟨by rw [e1, lst_len]; omega, e1, fun o ho => ?_, ?_⟩
  · rw [← e]
    show (mOv h 344 0).getD o (-1, 0) = _
    rw [mOv_at ho, Nat.zero_add, Nat.zero_add, Nat.zero_add]
  · rw [← e]
    show (mOv h 344 0).length = 4
    unfold mOv
    rw [List.length_map, List.length_range]
theorem MM_c {D : zDc} (x : MM h s D) : ((D.1.length : Int) = gI h 344 200) ∧ D.1 = lst (gI h 344) (gI h 344 200) ∧ (∀ o, o < 4 → D.2.getD o (-1, 0) = if gI h 344 (201 + 3 * o) = 1 then (gI h 344 (202 + 3 * o), gI h 344 (203 + 3 * o)) else (-1, 0)) ∧ D.2.length = 4 := mv_c (MM_8 x).2.1 (MM_8 x).2.2
theorem MS_8 (x : MS h s) : mdOk h 344 0 ∧ mv h 344 0 = sD s := ⟨x.2.1.2.2.2.1, x.2.2.1⟩
theorem MS_c (x : MS h s) : (((sD s).1.length : Int) = gI h 344 200) ∧ (sD s).1 = lst (gI h 344) (gI h 344 200) ∧ (∀ o, o < 4 → (sD s).2.getD o (-1, 0) = if gI h 344 (201 + 3 * o) = 1 then (gI h 344 (202 + 3 * o), gI h 344 (203 + 3 * o)) else (-1, 0)) ∧ (sD s).2.length = 4 := mv_c (MS_8 x).1 (MS_8 x).2
theorem mdoc {bs : List Int} {ov : List (Int × Int)} (e1 : lst (gI h 344) (gI h 344 200) = bs) (l4 : ov.length = 4) (e2 : ∀ o, o < 4 → ov.getD o (-1, 0) = if gI h 344 (201 + 3 * o) = 1 then (gI h 344 (202 + 3 * o), gI h 344 (203 + 3 * o)) else (-1, 0)) : mv h 344 0 = (bs, ov) := by
  refine Prod.ext ?_ ?_
  · show lst (fun j => gI h 344 (0 + j)) (gI h 344 (0 + 200)) = bs
    rw [← e1]
    exact lst_eq rfl (fun j _ => by rw [Nat.zero_add])
  · show mOv h 344 0 = ov
    unfold mOv
    refine ov_ext l4 (fun o ho => ?_)
    rw [e2 o ho, Nat.zero_add, Nat.zero_add, Nat.zero_add]
theorem mdOk_i (a : 0 ≤ gI h 344 200 ∧ gI h 344 200 ≤ 200) (b : ∀ j : Nat, j < 200 → 0 ≤ gI h 344 j ∧ gI h 344 j ≤ 255) (c : ∀ o : Nat, o < 4 → gI h 344 (201 + 3 * o) = 1 → (0 ≤ gI h 344 (202 + 3 * o) ∧ gI h 344 (202 + 3 * o) ≤ 3) ∧ 0 ≤ gI h 344 (203 + 3 * o) ∧ gI h 344 (203 + 3 * o) ≤ gI h 344 200) : mdOk h 344 0 := by
  refine ⟨a, fun j hj => by rw [Nat.zero_add]; exact b j hj, fun o ho q => ?_⟩
  rw [Nat.zero_add] at q
  rw [Nat.zero_add, Nat.zero_add, Nat.zero_add]
  exact c o ho q
theorem mdOk_e (k : mdOk h 344 0) : (0 ≤ gI h 344 200 ∧ gI h 344 200 ≤ 200) ∧ (∀ j : Nat, j < 200 → 0 ≤ gI h 344 j ∧ gI h 344 j ≤ 255) ∧ (∀ o : Nat, o < 4 → gI h 344 (201 + 3 * o) = 1 → (0 ≤ gI h 344 (202 + 3 * o) ∧ gI h 344 (202 + 3 * o) ≤ 3) ∧ 0 ≤ gI h 344 (203 + 3 * o) ∧ gI h 344 (203 + 3 * o) ≤ gI h 344 200) := by
  obtain ⟨a, b, c⟩ := k
  refine ⟨a, fun j hj => by have := b j hj; rw [Nat.zero_add] at this; exact this, fun o ho q => ?_⟩
  have := c o ho (by rw [Nat.zero_add]; exact q)
  rw [Nat.zero_add, Nat.zero_add, Nat.zero_add] at this
  exact this
theorem MM_d {g : zHp} {D D' : zDc} (F : zF4 m344 h g) (o8 : mdOk g 344 0) (e8 : mv g 344 0 = D') (x : MM h s D) : MM g s D' := by
  obtain ⟨x1, ⟨o, x2, x3, x4⟩, x5, x6⟩ := x
  have p : ∀ b j, b ≠ 344 → ¬ m344 b j := fun b j w z => w z
  obtain ⟨q1, q2, q3⟩ := mhist_F o F (p _ _ (by omega)) (p _ _ (by omega)) (fun j => p _ _ (by omega)) (fun j => p _ _ (by omega)) o8
  have e7 : ∀ j : Nat, j < 213 → gI g 347 (0 + j) = gI h 347 (0 + j) := fun j _ => F.I _ _ (p _ _ (by omega))
  exact ⟨MK_F F (fun j _ => p _ _ (by omega)) (fun b j _ _ => p _ _ (by omega)) x1, ⟨q1, e8, by rw [q2]; exact x3, by rw [q3]; exact x4⟩, mdOk_cp x5 e7, by rw [mv_cp x5 e7]; exact x6⟩
theorem mcF_d {g : zHp} (F : zF4 m344 h g) : mcF h g := mcF_4 F (fun b j hb w => by have w : b = 344 := w; omega)
/-- a gap is filled -/
theorem MM_ins {h1 g : zHp} {p n : Int} {xs : List Int} (x : MM h s (sD s)) (g0 : 0 ≤ p) (g1 : p ≤ gI h 344 200) (hn : (xs.length : Int) = n) (g3 : gI h 344 200 + n ≤ 200) (hb : byB xs) (F1 : zF4 m344 h h1) (e1 : gI h1 344 200 = gI h 344 200 + n) (e2 : ∀ j : Nat, (j : Int) < p → gI h1 344 j = gI h 344 j) (e3 : ∀ j : Nat, p + n ≤ j → (j : Int) < gI h 344 200 + n → gI h1 344 j = gI h 344 (j - n.toNat)) (e4 : ∀ j : Nat, j < 200 → 0 ≤ gI h1 344 j ∧ gI h1 344 j ≤ 255) (e5 : ∀ o : Nat, o < 4 → gI h1 344 (201 + 3 * o) = gI h 344 (201 + 3 * o) ∧ gI h1 344 (202 + 3 * o) = gI h 344 (202 + 3 * o) ∧ gI h1 344 (203 + 3 * o) = if gI h 344 (201 + 3 * o) = 1 ∧ p < gI h 344 (203 + 3 * o) then gI h 344 (203 + 3 * o) + n else gI h 344 (203 + 3 * o)) (F : zF4 m344 h1 g) (at1 : ∀ j : Nat, j < xs.length → xs[j]? = some (gI g 344 (p.toNat + j))) (ne : ∀ j : Nat, ¬ (p.toNat ≤ j ∧ j < p.toNat + xs.length) → gI g 344 j = gI h1 344 j) : MM g s (insL (sB s) p.toNat xs, (sO s).map (oOp p n)) := by
  obtain ⟨_, k8, _⟩ := MM_8 x
  obtain ⟨a1, a2, a3⟩ := mdOk_e k8
  obtain ⟨c1, c2, c3, c4⟩ := MM_c x
  have n200 : gI g 344 200 = gI h 344 200 + n := by rw [ne 200 (by omega), e1]
  have ov : ∀ o : Nat, o < 4 → gI g 344 (201 + 3 * o) = gI h 344 (201 + 3 * o) ∧ gI g 344 (202 + 3 * o) = gI h 344 (202 + 3 * o) ∧ gI g 344 (203 + 3 * o) = if gI h 344 (201 + 3 * o) = 1 ∧ p < gI h 344 (203 + 3 * o) then gI h 344 (203 + 3 * o) + n else gI h 344 (203 + 3 * o) := fun o ho => by
    rw [ne _ (by omega), ne _ (by omega), ne _ (by omega)]; exact e5 o ho
  refine MM_d (F1.tr F) (mdOk_i (by omega) (fun j hj => ?_) (fun o ho q => ?_)) (mdoc ?_ ?_ (fun o ho => ?_)) x
  · by_cases q : p.toNat ≤ j ∧ j < p.toNat + xs.length
    · have := at1 (j - p.toNat) (by omega)
      rw [show p.toNat + (j - p.toNat) = j by omega] at this
      exact hb _ (List.mem_of_getElem? this)
    · rw [ne j q]; exact e4 j hj
  · obtain ⟨o1, o2, o3⟩ := ov o ho
    rw [o1] at q
    have := a3 o ho q
    rw [o2, o3, n200]
    refine ⟨this.1, ?_⟩
    split <;> omega
  · rw [n200, ← hn, show sB s = lst (gI h 344) (gI h 344 200) from c2]
    refine ins_lst a1.1 (by omega) (fun j hj => ?_) (fun j hj => at1 j hj) (fun j hj hj2 => ?_)
    · rw [ne j (by omega)]; exact e2 j (by omega)
    · rw [ne j (by omega), e3 j (by omega) (by omega)]; congr 2; omega
  · rw [List.length_map]; exact c4
  · obtain ⟨o1, o2, o3⟩ := ov o ho
    rw [getD_map (oOp_0 g0), show (sO s).getD o (-1, 0) = _ from c3 o ho, o1, o2, o3]
    by_cases q : gI h 344 (201 + 3 * o) = 1
    · rw [if_pos q, if_pos q]
      show (gI h 344 (202 + 3 * o), if p < gI h 344 (203 + 3 * o) then gI h 344 (203 + 3 * o) + n else gI h 344 (203 + 3 * o)) = _
      by_cases q2 : p < gI h 344 (203 + 3 * o)
      · rw [if_pos q2, if_pos ⟨q, q2⟩]
      · rw [if_neg q2, if_neg (fun w => q2 w.2)]
    · rw [if_neg q, if_neg q, oOp_0 g0]
/-- bytes are written over -/
theorem MM_ovw {g : zHp} {p : Int} {xs : List Int} (x : MM h s (sD s)) (g0 : 0 ≤ p) (g1 : p + xs.length ≤ gI h 344 200) (hb : byB xs) (F : zF4 m344 h g) (at1 : ∀ j : Nat, j < xs.length → xs[j]? = some (gI g 344 (p.toNat + j))) (ne : ∀ j : Nat, ¬ (p.toNat ≤ j ∧ j < p.toNat + xs.length) → gI g 344 j = gI h 344 j) : MM g s (ovwL (sB s) p.toNat xs, sO s) := by
  obtain ⟨_, k8, _⟩ := MM_8 x
  obtain ⟨a1, a2, a3⟩ := mdOk_e k8
  obtain ⟨c1, c2, c3, c4⟩ := MM_c x
  have n200 : gI g 344 200 = gI h 344 200 := ne 200 (by omega)
  refine MM_d F (mdOk_i (by omega) (fun j hj => ?_) (fun o ho q => ?_)) (mdoc ?_ c4 (fun o ho => ?_)) x
  · by_cases q : p.toNat ≤ j ∧ j < p.toNat + xs.length
    · have := at1 (j - p.toNat) (by omega)
      rw [show p.toNat + (j - p.toNat) = j by omega] at this
      exact hb _ (List.mem_of_getElem? this)
    · rw [ne j q]; exact a2 j hj
  · rw [ne _ (by omega)] at q
    rw [ne _ (by omega), ne _ (by omega), n200]
    exact a3 o ho q
  · rw [n200, show sB s = lst (gI h 344) (gI h 344 200) from c2]
    exact ovw_lst a1.1 (by omega) (fun j hj => ne j (by omega)) at1 (fun j hj hj2 => ne j (by omega))
  · rw [ne _ (by omega), ne _ (by omega), ne _ (by omega)]; exact c3 o ho
theorem ym_chg {D : zDc} {a : zSt → Int} {P : Int → zHp → Prop} {h0 : zHp} (hd : 7 ≤ d) (x : MM h s D) (c0 : mcF h0 h)
    (kS : ∀ g s', MS g s' → mcF h0 g → chR s D a = (a s', s') → (sD s').2 = D.2 → sTs s' = sTs s → P 1 g) (kU : ∀ g, MS g s → mcF h0 g → chR s D a = (-1005, s) → P 0 g) : wpN G d M_X11_stays 0 (zar 0 [vR 343, vI 1]) [] h (qI (fun z g => zSh g ∧ P z g)) := by
  have dok : dvOk D := by rw [← (MM_8 x).2.2]; exact dvOk_m (MM_8 x).2.1
  refine ym_stays hd x (fun g D' _ hh ms cf => qI_i ⟨ms.1.1, kS g (cmt s D') ms (mcF_tr c0 cf) ?_ ?_ rfl⟩) (fun g hh ms cf => qI_i ⟨ms.1.1, kU g ms (mcF_tr c0 cf) ?_⟩)
  · unfold chR
    rcases hh with ⟨a1, c1⟩ | ⟨a1, r, b1, d1⟩
    · rw [if_pos a1, c1]
    · rw [if_neg a1, b1, if_neg (by show ¬ r < 0; omega)]
  · show D'.2 = D.2
    rcases hh with ⟨a1, c1⟩ | ⟨a1, r, b1, d1⟩
    · rw [c1]
    · have := (updR_ov (Ts := sTs s) 8 0 D dok).1
      rw [b1] at this; exact this
  · rcases hh with w | ⟨w, w2⟩
    · omega
    · unfold chR
      rw [if_neg w, if_pos w2]
theorem ym_insert {p v n : Int} (hd : 8 ≤ d) (x : MS h s) (k : ∀ g, MS g (rIns s p v n).2 → mcF h g → Q (some (vI (rIns s p v n).1)) g) : wpN G d M_X11_insert 0 (zar 0 [vR 343, vI p, vI v, vI n]) [] h Q := by
  have hS := x.1.1
  obtain ⟨h8, e8⟩ := MS_8 x
  obtain ⟨l8, _⟩ := MS_c x
  have l8 : ((sB s).length : Int) = gI h 344 200 := l8
  obtain ⟨b1, _⟩ := mdOk_e h8
  have bad : ¬ ((0 ≤ p ∧ p ≤ (sB s).length) ∧ (0 ≤ v ∧ v ≤ 255) ∧ (1 ≤ n ∧ n ≤ 64)) → Q (some (vI (-1001))) h := fun nb => by
    have e : rIns s p v n = (-1001, s) := by unfold rIns; rw [if_neg nb]
    rw [e] at k; exact k h x mcF_rf
  refine vc_X11_insert_0 p v n h hS (by omega) (fun y1 y2 y3 y4 g => y1 = p ∧ y2 = v ∧ y3 = n ∧ y4 = ((0 : Nat) : Int) ∧ wpN G d M_X11_insert 71 [(0, vR 343), (1, vI p), (2, vI v), (3, vI n), (4, vI ((0 : Nat) : Int))] [] g Q) ?_ (sp_size hS (qI_i ⟨hS, sp_in hS (fun r1 q1 => qI_i ⟨hS, fun z => bad (fun w => by omega), fun z => sp_in hS (fun r2 q2 => qI_i ⟨hS, fun z2 => bad (fun w => by omega), fun z2 => sp_in hS (fun r3 q3 => qI_i ⟨hS, fun z3 => sp_size hS (qI_i ⟨hS, by omega, fun c => ?_, fun c => ?_⟩), fun z3 => bad (fun w => by omega)⟩)⟩)⟩)⟩))
  · rintro _ _ _ _ _ ⟨z0, z1, z2, z3, z4⟩
    rw [z0, z1, z2, z3]
    exact z4
  · refine ym_keep (by omega) x (fun h26 xm cf26 e26 => qV_i ⟨xm.1.1, ?_⟩)
    obtain ⟨s26, o26, d26⟩ := MM_8 xm
    have n26 := e26 200
    refine sp_opens (by omega) s26 o26 (by omega) (by omega) (by omega) (by omega) (fun h30 s30 F30 e1 e2 e3 e4 e5 => qV_i ⟨s30, fun _ => ⟨rfl, rfl, rfl, rfl, ?_⟩⟩)
    have loop : ∀ (m i : Nat) (g : zHp), i + m = n.toNat → zSh g → zF4 m344 h30 g → (∀ j : Nat, gI g 344 j = if p.toNat ≤ j ∧ j < p.toNat + i then v else gI h30 344 j) → wpN G d M_X11_insert 71 [(0, vR 343), (1, vI p), (2, vI v), (3, vI n), (4, vI (i : Int))] [] g Q := by
      intro m
      induction m with
      | zero =>
        intro i g hi sg F o
        have xg : MM g s (insL (sB s) p.toNat (List.replicate n.toNat v), (sO s).map (oOp p n)) := by
          refine MM_ins xm (by omega) (by omega) (by rw [List.length_replicate]; omega) (by omega) (fun b hb => ?_) F30 e1 e2 e3 e4 e5 F (fun j hj => ?_) (fun j hj => ?_)
          · rw [List.eq_of_mem_replicate hb]; omega
          · rw [List.length_replicate] at hj
            rw [o, if_pos (by omega), List.getElem?_replicate_of_lt hj]
          · rw [List.length_replicate] at hj
            rw [o, if_neg (by omega)]
        refine vc_X11_insert_71 p v n i g sg (by omega) (fun _ _ _ _ _ => False) (fun _ _ _ _ _ w => w.elim) ⟨fun _ => ?_, fun w => by omega⟩
        have er : rIns s p v n = chR s (insL (sB s) p.toNat (List.replicate n.toNat v), (sO s).map (oOp p n)) aLen := by unfold rIns; rw [if_pos (by omega), if_pos (by omega)]
        rw [er] at k
        refine ym_chg (h0 := h) (a := aLen) (by omega) xg (mcF_tr cf26 (mcF_d (F30.tr F))) (fun g' s' xs cf e _ _ => ⟨fun w => absurd w (by omega), fun _ => sp_size xs.1.1 (qI_i ⟨xs.1.1, ?_⟩)⟩) (fun g' xs cf e => ⟨fun _ => ?_, fun w => absurd rfl w⟩)
        · rw [e] at k
          rw [← (MS_c xs).1]
          exact k g' xs cf
        · rw [e] at k
          exact k g' xs cf
      | succ m ih =>
        intro i g hi sg F o
        refine vc_X11_insert_71 p v n i g sg (by omega) (fun y1 y2 y3 y4 g' => y1 = p ∧ y2 = v ∧ y3 = n ∧ y4 = ((i + 1 : Nat) : Int) ∧ g' = sI g 344 (p.toNat + i) v) ?_ ⟨fun w => by omega, fun w => ⟨by omega, by omega, fun h11 e11 => ⟨by omega, fun x13 e13 _ => ⟨rfl, rfl, rfl, by omega, by rw [e11, show (p + (i : Int)).toNat = p.toNat + i by omega]⟩⟩⟩⟩
        rintro _ _ _ _ _ ⟨z0, z1, z2, z3, z4⟩
        rw [z0, z1, z2, z3, z4]
        refine ih (i + 1) _ (by omega) sg (F.tr (zF4.sI rfl)) (fun j => ?_)
        rw [gI_sI]
        by_cases q : j = p.toNat + i
        · rw [if_pos ⟨rfl, q⟩, if_pos (by omega)]
        · rw [if_neg (fun w => q w.2), o]
          by_cases q2 : p.toNat ≤ j ∧ j < p.toNat + i
          · rw [if_pos q2, if_pos (by omega)]
          · rw [if_neg q2, if_neg (by omega)]
    exact loop n.toNat 0 h30 (by omega) s30 zF4.rf (fun j => by rw [if_neg (by omega)])
  · have e : rIns s p v n = (-1003, s) := by unfold rIns; rw [if_pos (by omega), if_neg (by omega)]
    rw [e] at k; exact k h x mcF_rf
theorem ym_overwrite {p v : Int} (hd : 8 ≤ d) (x : MS h s) (k : ∀ g, MS g (rOvw s p v).2 → mcF h g → Q (some (vI (rOvw s p v).1)) g) : wpN G d M_X11_overwrite 0 (zar 0 [vR 343, vI p, vI v]) [] h Q := by
  have hS := x.1.1
  obtain ⟨h8, e8⟩ := MS_8 x
  obtain ⟨l8, l9, _⟩ := MS_c x
  have l8 : ((sB s).length : Int) = gI h 344 200 := l8
  obtain ⟨b1, _⟩ := mdOk_e h8
  have bad : ¬ ((0 ≤ p ∧ p < (sB s).length) ∧ (0 ≤ v ∧ v ≤ 255)) → Q (some (vI (-1001))) h := fun nb => by
    have e : rOvw s p v = (-1001, s) := by unfold rOvw; rw [if_neg nb]
    rw [e] at k; exact k h x mcF_rf
  refine vc_X11_overwrite_0 p v h hS (by omega) (sp_size hS (qI_i ⟨hS, by omega, sp_in hS (fun r1 q1 => qI_i ⟨hS, fun z => bad (fun w => by omega), fun z => sp_in hS (fun r2 q2 => qI_i ⟨hS, fun z2 => ?_, fun z2 => bad (fun w => by omega)⟩)⟩)⟩))
  refine ym_keep (by omega) x (fun h16 xm cf16 e16 => qV_i ⟨xm.1.1, ⟨by omega, by omega⟩, fun x19 e19 => ⟨⟨by omega, by omega⟩, fun h21 e21 => ?_⟩⟩)
  have n16 := e16 200
  have er : rOvw s p v = chR s (ovwL (sB s) p.toNat [v], sO s) (fun _ => tg (sB s) p.toNat) := by unfold rOvw; rw [if_pos (by omega)]
  rw [er] at k
  have xg : MM h21 s (ovwL (sB s) p.toNat [v], sO s) := by
    refine MM_ovw xm (by omega) (by show p + ((1 : Nat) : Int) ≤ _; omega) (fun b hb => ?_) (by rw [e21]; exact zF4.sI rfl) (fun j hj => ?_) (fun j hj => ?_)
    · rw [List.mem_singleton.mp hb]; omega
    · have hj : j < 1 := hj
      have ej : j = 0 := by omega
      rw [ej, e21, gI_sI, if_pos ⟨rfl, by omega⟩]; rfl
    · have hj : ¬ (p.toNat ≤ j ∧ j < p.toNat + 1) := hj
      rw [e21, gI_sI, if_neg (fun w => hj (by have := w.2; omega))]
  have ex : x19 = tg (sB s) p.toNat := by
    rw [e19, e16, show sB s = lst (gI h 344) (gI h 344 200) from l9]
    unfold tg
    rw [List.getD_eq_getElem?_getD, lst_get (by omega)]
    rfl
  refine ym_chg (h0 := h) (a := fun _ => tg (sB s) p.toNat) (by omega) xg (mcF_tr cf16 (mcF_d (by rw [e21]; exact zF4.sI rfl))) (fun g' s' xs cf e _ _ => ⟨fun w => absurd w (by omega), fun _ => ?_⟩) (fun g' xs cf e => ⟨fun _ => ?_, fun w => absurd rfl w⟩)
  · rw [e] at k
    rw [ex]
    exact k g' xs cf
  · rw [e] at k
    exact k g' xs cf
end MCHG
