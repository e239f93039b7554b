/-! the template that lies in rows -/
theorem xT_of {h : zHp} {a : Nat} {T : List (List Int)} (r : xRo h a T) (ok : tOk T) : xT h a = T := by
  unfold xT
  rw [r.1, show ((T.length : Nat) : Int).toNat = T.length by omega]
  refine List.ext_getElem? (fun i => ?_)
  by_cases q : i < T.length
  · rw [List.getElem?_map, List.getElem?_range q, List.getElem?_eq_getElem q]
    show some _ = some _
    congr 1
    have g : T.getD i [] = T[i] := by rw [List.getD_eq_getElem?_getD, List.getElem?_eq_getElem q]; rfl
    have l13 := (ok.2.2 i q).1.1.1
    rw [← g]
    refine list13 (by rw [List.length_map, List.length_range]) l13 (fun f hf => ?_)
    rw [rng_get hf]
    exact r.2 i q f hf
  · rw [List.getElem?_eq_none (by rw [List.length_map, List.length_range]; omega), List.getElem?_eq_none (by omega)]
