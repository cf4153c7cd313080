section FRAME
theorem va_P_mem {D : va_G} {cl : List vw_C} {ws : va_W} {H : Heap} : va_P D cl ws H ↔ ∀ q ∈ ws, va_at D cl q H := by
  constructor
  · intro h q hq
    obtain ⟨k, hk⟩ := List.getElem?_of_mem hq
    exact h k q hk
  · intro h k q hk
    exact h q (List.mem_of_getElem? hk)
theorem va_P_swap {D : va_G} {cl : List vw_C} {x y : va_W} {H : Heap} (h : va_P D cl (x ++ y) H) : va_P D cl (y ++ x) H := by
  rw [va_P_mem] at h ⊢
  intro q hq
  refine h q ?_
  rcases List.mem_append.mp hq with z | z
  · exact List.mem_append_right _ z
  · exact List.mem_append_left _ z
theorem rg_map (x y : va_W) : (List.range x.length).map (fun i => (x ++ y)[i]?) = x.map some := by
  apply List.ext_getElem?
  intro i
  rw [List.getElem?_map, List.getElem?_map]
  by_cases h : i < x.length
  · rw [List.getElem?_range h, List.getElem?_eq_getElem h]
    show some ((x ++ y)[i]?) = _
    rw [List.getElem?_append_left h, List.getElem?_eq_getElem h]; rfl
  · rw [List.getElem?_eq_none (by rw [List.length_range]; omega), List.getElem?_eq_none (by omega)]; rfl
theorem rg_map2 (x y : va_W) : ((List.range y.length).map (fun i => x.length + i)).map (fun i => (x ++ y)[i]?) = y.map some := by
  apply List.ext_getElem?
  intro i
  rw [List.getElem?_map, List.getElem?_map, List.getElem?_map]
  by_cases h : i < y.length
  · rw [List.getElem?_range h, List.getElem?_eq_getElem h]
    show some ((x ++ y)[x.length + i]?) = _
    rw [List.getElem?_append_right (by omega), Nat.add_sub_cancel_left, List.getElem?_eq_getElem h]; rfl
  · rw [List.getElem?_eq_none (by rw [List.length_range]; omega), List.getElem?_eq_none (by omega)]; rfl
end FRAME
