/-! THE WORDS that every method may lean on: the tables' words at their places, but for those on cells of statics -/
def z_ls (w : Cond) : Bool := match w with
  | .laysStatic _ _ _ => true
  | .stringRef _ _ _ => true
  | _ => false
def z_wl : List Cond := lw_tbl.map (fun w => if z_ls w then .initialized "ZoneDeskLaw" else w)
theorem z_wl_of {args : Array Value} {s : State} (hts : ∀ w ∈ lw_tbl, w.before args s = true) : ∀ w ∈ z_wl, w.before args s = true := by
  intro w hw
  obtain ⟨x, hx, rfl⟩ := List.mem_map.mp hw
  split
  · exact hts _ (List.mem_of_getElem? (i := 61) (by decide +kernel))
  · exact hts _ hx
