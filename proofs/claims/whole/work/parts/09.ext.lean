section ZAEXT
variable {p : Program} {l : Launch} {e : Env} {R : Room} {s : State} {m : MethodId} {args : Array Value} {below : List Frame} {meth : Method} {c : Code} {D : za_D} {nL : Nat} {Q : State → Prop} {h0 : za_H} {n cells slots pc : Nat} {lv : List (Nat × za_V)} {st : List za_V} {vw : List (Nat × za_C)} {own : String} {cc : ByteArray} {cd : List (Nat × Instr × Nat)} {fl : List (Nat × Nat × Nat)} {ret : Option FieldType}
/-- what an array holds behind its end is nobody's business -/
theorem za_ext {i t0 N : Nat} {f : Nat → Int32} (g : Nat → Int32) (hi : za_ov h0 vw i = some (.inl (t0, N, .inl f))) (hfg : ∀ j, j < N → f j = g j) (kk : za_W p l e R s m args below meth c D nL Q h0 n cells slots pc lv st (za_vs vw i (.inl (t0, N, .inl g)))) : za_W p l e R s m args below meth c D nL Q h0 n cells slots pc lv st vw := by
  intro H locs ls hR hS hl
  refine kk H locs ls ?_ hS hl
  rw [za_ov_vs]
  refine hR.set rfl ?_ (fun _ _ => rfl)
  have hat : H[D.2.2 + i]? = some (vp_cell (D.2.1 t0) (N, .inl f)) := hR.2.1 i _ hi
  show H[D.2.2 + i]? = some (vp_cell (D.2.1 t0) (N, .inl g))
  rw [hat, vp_cell_i, vp_cell_i]
  congr 1
  unfold arrV
  congr 2
  funext j
  exact congrArg Value.int (hfg j.val j.isLt)
/-- a field's writing, the new list said -/
theorem za_putV {i idx ci k : Nat} {fs : List za_V} {v : za_V} (X : za_X p s m args meth c D own cc cd fl nL ret) (v1 : List (Nat × za_C)) (hf : za_fe cd pc = some (.putfield idx, 3)) (hi : za_ov h0 vw i = some (.inr (ci, fs))) (hk : za_fk fl idx = some (ci, k)) (hv : za_okf (za_fty ci k) v = true) (hfin : za_fin ci k = false) (hl0 : k < fs.length) (he : za_ov h0 v1 = za_set (za_ov h0 vw) i (.inr (ci, fs.set k v))) (kk : za_W p l e R s m args below meth c D nL Q h0 n cells slots (pc + 3) lv st v1) : za_W p l e R s m args below meth c D nL Q h0 n cells slots pc lv (v :: .inr (.inr (some i)) :: st) vw :=
  za_putH X hf hi hk hv hfin hl0 (za_look (by rw [he, za_ov_vs]) kk)
end ZAEXT
