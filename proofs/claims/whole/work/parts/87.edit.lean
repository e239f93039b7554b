/-! edits as values -/
def insL (bs : List Int) (p : Nat) (xs : List Int) : List Int := bs.take p ++ xs ++ bs.drop p
def ovwL (bs : List Int) (p : Nat) (xs : List Int) : List Int := bs.take p ++ xs ++ bs.drop (p + xs.length)
def delL (bs : List Int) (p n : Nat) : List Int := bs.take p ++ bs.drop (p + n)
theorem lst_ext {f : Nat → Int} {n : Int} {l : List Int} (h0 : 0 ≤ n) (hl : (l.length : Int) = n) (e : ∀ j : Nat, (j : Int) < n → l[j]? = some (f j)) : lst f n = l := by
  refine List.ext_getElem? (fun j => ?_)
  by_cases q : (j : Int) < n
  · rw [lst_get q, e j q]
  · rw [lst_none (by omega), List.getElem?_eq_none (by omega)]
theorem ins_lst {f f' : Nat → Int} {n : Int} {p : Nat} {xs : List Int} (h0 : 0 ≤ n) (hp : (p : Int) ≤ n) (e1 : ∀ j : Nat, j < p → f' j = f j) (e2 : ∀ j : Nat, j < xs.length → xs[j]? = some (f' (p + j))) (e3 : ∀ j : Nat, p + xs.length ≤ j → (j : Int) < n + xs.length → f' j = f (j - xs.length)) : lst f' (n + xs.length) = insL (lst f n) p xs := by
  have ll : (lst f n).length = n.toNat := lst_len
  have lt : ((lst f n).take p).length = p := by rw [List.length_take, ll]; omega
  refine lst_ext (by omega) ?_ (fun j hj => ?_)
  · unfold insL
    rw [List.length_append, List.length_append, lt, List.length_drop, ll]; omega
  · unfold insL
    by_cases q1 : j < p
    · rw [List.append_assoc, List.getElem?_append_left (by omega), List.getElem?_take_of_lt q1, lst_get (by omega), e1 j q1]
    · by_cases q2 : j < p + xs.length
      · rw [List.getElem?_append_left (by rw [List.length_append]; omega), List.getElem?_append_right (by omega), lt, e2 _ (by omega)]
        congr 2; omega
      · rw [List.getElem?_append_right (by rw [List.length_append]; omega), List.length_append, lt, List.getElem?_drop, lst_get (by omega), e3 j (by omega) hj]
        congr 2; omega
theorem ovw_lst {f f' : Nat → Int} {n : Int} {p : Nat} {xs : List Int} (h0 : 0 ≤ n) (hp : (p : Int) + xs.length ≤ n) (e1 : ∀ j : Nat, j < p → f' j = f j) (e2 : ∀ j : Nat, j < xs.length → xs[j]? = some (f' (p + j))) (e3 : ∀ j : Nat, p + xs.length ≤ j → (j : Int) < n → f' j = f j) : lst f' n = ovwL (lst f n) p xs := by
  have ll : (lst f n).length = n.toNat := lst_len
  have lt : ((lst f n).take p).length = p := by rw [List.length_take, ll]; omega
  refine lst_ext (by omega) ?_ (fun j hj => ?_)
  · unfold ovwL
    rw [List.length_append, List.length_append, lt, List.length_drop, ll]; omega
  · unfold ovwL
    by_cases q1 : j < p
    · rw [List.append_assoc, List.getElem?_append_left (by omega), List.getElem?_take_of_lt q1, lst_get (by omega), e1 j q1]
    · by_cases q2 : j < p + xs.length
      · rw [List.getElem?_append_left (by rw [List.length_append]; omega), List.getElem?_append_right (by omega), lt, e2 _ (by omega)]
        congr 2; omega
      · rw [List.getElem?_append_right (by rw [List.length_append]; omega), List.length_append, lt, List.getElem?_drop, lst_get (by omega), e3 j (by omega) hj]
        congr 2; omega
theorem del_lst {f f' : Nat → Int} {n : Int} {p m : Nat} (h0 : 0 ≤ n) (hp : (p : Int) + m ≤ n) (e1 : ∀ j : Nat, j < p → f' j = f j) (e3 : ∀ j : Nat, p ≤ j → (j : Int) < n - m → f' j = f (j + m)) : lst f' (n - m) = delL (lst f n) p m := by
  have ll : (lst f n).length = n.toNat := lst_len
  have lt : ((lst f n).take p).length = p := by rw [List.length_take, ll]; omega
  refine lst_ext (by omega) ?_ (fun j hj => ?_)
  · unfold delL
    rw [List.length_append, lt, List.length_drop, ll]; omega
  · unfold delL
    by_cases q1 : j < p
    · rw [List.getElem?_append_left (by omega), List.getElem?_take_of_lt q1, lst_get (by omega), e1 j q1]
    · rw [List.getElem?_append_right (by omega), lt, List.getElem?_drop, lst_get (by omega), e3 j (by omega) hj]
      congr 2; omega
/-- overlays as values, by their entries -/
theorem ov_ext {f : Nat → Int × Int} {l : List (Int × Int)} (hl : l.length = 4) (e : ∀ o, o < 4 → l.getD o (-1, 0) = f o) : (List.range 4).map f = l := by
  refine List.ext_getElem? (fun j => ?_)
  by_cases q : j < 4
  · rw [List.getElem?_map, List.getElem?_range q]
    show some (f j) = _
    rw [← e j q, List.getD_eq_getElem?_getD, List.getElem?_eq_getElem (by omega)]
    rfl
  · rw [List.getElem?_eq_none (by simp; omega), List.getElem?_eq_none (by omega)]
theorem getD_map {f : Int × Int → Int × Int} {l : List (Int × Int)} (hf : f (-1, 0) = (-1, 0)) (o : Nat) : (l.map f).getD o (-1, 0) = f (l.getD o (-1, 0)) := by
  rw [List.getD_eq_getElem?_getD, List.getD_eq_getElem?_getD, List.getElem?_map]
  cases l[o]? with
  | none => exact hf.symm
  | some x => rfl
theorem getD_set {l : List (Int × Int)} {o i : Nat} {v : Int × Int} (hl : l.length = 4) (ho : o < 4) : (l.set i v).getD o (-1, 0) = if o = i then v else l.getD o (-1, 0) := by
  rw [List.getD_eq_getElem?_getD, List.getD_eq_getElem?_getD, List.getElem?_set]
  by_cases q : i = o
  · rw [if_pos q, if_pos (by omega), if_pos q.symm]; rfl
  · rw [if_neg q, if_neg (fun w => q w.symm)]
theorem oOp_0 {p n : Int} (hp : 0 ≤ p) : oOp p n (-1, 0) = (-1, 0) := by
  show ((-1 : Int), if p < 0 then (0 : Int) + n else 0) = _
  rw [if_neg (by omega)]
theorem oCl_0 {p n : Int} (hp : 0 ≤ p) : oCl p n (-1, 0) = (-1, 0) := by
  show ((-1 : Int), if p < 0 then (if (0 : Int) - n < p then p else 0 - n) else 0) = _
  rw [if_neg (by omega)]
/-- the end of a change, as a value: answer and state -/
def chR (s : zSt) (D : zDc) (a : zSt → Int) : Int × zSt :=
  if sFo s = 0 then (a (cmt s D), cmt s D) else if (updR (rndD (sTs s)) 8 0 D).1 < 0 then (-1005, s) else (a (cmt s (updR (rndD (sTs s)) 8 0 D).2), cmt s (updR (rndD (sTs s)) 8 0 D).2)
theorem updR_rng {rnd : zDc → zDc × Bool} : ∀ (n k : Nat) (v : zDc), (updR rnd n k v).1 = -1 ∨ (0 ≤ (updR rnd n k v).1 ∧ (updR rnd n k v).1 < (k + n : Nat))
  | 0, k, v => Or.inl rfl
  | n + 1, k, v => by
    rw [updR]
    split
    · have := updR_rng (rnd := rnd) n (k + 1) (rnd v).1
      rw [show k + (n + 1) = k + 1 + n by omega]
      omega
    · right
      show 0 ≤ (k : Int) ∧ (k : Int) < ((k + (n + 1) : Nat) : Int)
      omega
section XCHG
variable {G : zG} {d : Nat} {Q : Option zV → zHp → Prop} {h : zHp} {s : zSt}
theorem XM_d {g : zHp} {D D' : zDc} (F : zF3 (dIn 8) h g) (hS : zSh g) (o8 : dOk g 8) (e8 : dv g 8 = D') (x : XM h s D) : XM g s D' := by
  obtain ⟨x1, ⟨⟨o1, o2, o3, o4, o5, o6⟩, x2, x3, x4⟩, x5⟩ := x
  have nd : ∀ b, b < 9 ∨ 12 < b → ¬ dIn 8 b := fun b hb w => by obtain ⟨w1, w2⟩ := w; omega
  have e13 : ∀ j, gI g 13 j = gI h 13 j := (F 13 (nd _ (by omega))).1
  have e14 : ∀ j, gR g 14 j = gR h 14 j := (F 14 (nd _ (by omega))).2.2
  have doc : ∀ a, zT 369 a = (102, 3) → a ≠ 8 → dv g a = dv h a ∧ (dOk h a → dOk g a) := fun a ha n8 => by
    have z := zdocs ha
    have q : ∀ b, dIn a b → ¬ dIn 8 b := fun b hb => doc_apart ha zT_8 n8 hb
    exact ⟨dv_f3 a F q, dOk_f3 F q⟩
  refine ⟨XK_I hS (fun b j hb => (F b (nd _ (by omega))).1 j) ((F 1 (nd _ (by omega))).2.2 10) (fun j => (F 80 (nd _ (by omega))).2.2 j) (fun b j _ _ => (F b (nd _ (by omega))).1 j) x1, ⟨⟨fun i hi => ?_, fun i j hi hj e => o2 i j hi hj (by rw [← e14, ← e14]; exact e), o8, by rw [e13]; exact o4, by rw [e13, e13]; exact o5, by rw [e13]; exact o6⟩, e8, ?_, ?_⟩, ?_⟩
  · rw [e14]
    obtain ⟨q1, q2, q3⟩ := o1 i hi
    exact ⟨q1, q2, (doc _ q1 q2).2 q3⟩
  · rw [← x3]
    exact hPast_eq (e13 2) (fun i hi => by rw [e14]; exact (doc _ (o1 i (by omega)).1 (o1 i (by omega)).2.1).1)
  · rw [← x4]
    exact hFut_eq (e13 2) (e13 3) (fun i hi hi2 => by rw [e14]; exact (doc _ (o1 i (by omega)).1 (o1 i (by omega)).2.1).1) o4
  · rw [← x5]
    unfold hKept
    rw [e13, e14]
    exact (doc _ (o1 _ (by omega)).1 (o1 _ (by omega)).2.1).1
theorem xcF_d {g : zHp} (F : zF3 (dIn 8) h g) : xcF h g := xcF_3 F (fun b hb w => by obtain ⟨w1, w2⟩ := w; omega)
/-- the end of a change of the program, with its answer -/
theorem yx_chg {D : zDc} {a : zSt → Int} {P : Int → zHp → Prop} {h0 : zHp} (hd : 14 ≤ d) (x : XM h s D) (c0 : xcF h0 h)
    (kS : ∀ g n s', XS g s' → xcF h0 g → n ≠ -1005 → chR s D a = (a s', s') → P n g) (kU : ∀ g, XS g s → xcF h0 g → chR s D a = (-1005, s) → P (-1005) g) : wpN G d M_X10_endChange 0 (zar 0 [vR 1, vI (gI h 1 11)]) [] h (qI (fun z g => zSh g ∧ P z g)) := by
  have ef : gI h 1 11 = sFo s := x.1.2.2.2.2.2.1
  rw [ef]
  refine yx_end hd x (fun g n D' hh xs cf => qI_i ⟨xs.1.1, kS g n (cmt s D') xs (xcF_tr c0 cf) ?_ ?_⟩) (fun g hf hu xs cf => qI_i ⟨xs.1.1, kU g xs (xcF_tr c0 cf) ?_⟩)
  · rcases hh with ⟨_, b, _⟩ | ⟨_, _, b, _⟩ <;> omega
  · unfold chR
    rcases hh with ⟨a1, b1, c1⟩ | ⟨a1, b1, c1, d1⟩
    · rw [if_pos a1, c1]
    · rw [if_neg a1, b1, if_neg (by show ¬ n < 0; omega)]
  · unfold chR
    rw [if_neg hf, if_pos (by omega)]
/-- a document of the program from its cells -/
theorem xdoc {g : zHp} {L : List Int} {ov : List (Int × Int)} (e1 : lst (gI g 10) (gI g 9 1) = L) (hl : ov.length = 4) (e2 : ∀ o, o < 4 → ov.getD o (-1, 0) = (gI g 11 o, gI g 12 o)) : dv g 8 = (L, ov) := by
  show (lst (gI g 10) (gI g 9 1), dOv g 8) = _
  rw [e1, show dOv g 8 = ov from ov_ext hl e2]
theorem rPutAll_at {h : zHp} {p n : Nat} : ∀ k : Nat, k ≤ n → (p : Int) + n ≤ gI h 9 1 → (n : Int) ≤ gI h 4 1 → ∀ j, gI (rPutAll h 9 4 p k) 10 j = if p ≤ j ∧ j < p + k then gI h 5 (j - p) else gI h 10 j
  | 0, _, _, _, j => by rw [if_neg (by omega)]; rfl
  | k + 1, hk, h1, h2, j => by
    have n9 : gI (rPutAll h 9 4 p k) 9 1 = gI h 9 1 := rPutAll_ne (by omega) k
    have e : rGet h 4 k = gI h 5 k := by unfold rGet; rw [if_pos (by omega)]; rfl
    rw [rPutAll, rPut, n9, if_pos (by omega), gI_sI, rPutAll_at k (by omega) h1 h2 j, e, show ((p : Int) + (k : Int)).toNat = p + k by omega]
    by_cases q : j = p + k
    · rw [if_pos ⟨rfl, q⟩, if_pos (by omega), q, show p + k - p = k by omega]
    · rw [if_neg (fun w => q w.2)]
      by_cases q2 : p ≤ j ∧ j < p + k
      · rw [if_pos q2, if_pos (by omega)]
      · rw [if_neg q2, if_neg (by omega)]
theorem rPutAll_F {h : zHp} {p : Int} : ∀ k : Nat, zF3 (dIn 8) h (rPutAll h 9 4 p k)
  | 0 => zF3.rf
  | k + 1 => by
    rw [rPutAll]
    refine (rPutAll_F (p := p) k).tr ?_
    unfold rPut
    split
    · exact zF3.sI ⟨by omega, by omega⟩
    · exact zF3.rf
end XCHG
