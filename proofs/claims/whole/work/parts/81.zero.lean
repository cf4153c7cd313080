section ZERO
/-- both sides when they are new -/
def cz : St := fun k j => if k = 4 then (if j < 6 then -1 else 0) else if k = 0 then (if j = 10 then -1 else if j = 11 then -1 else 0) else 0
def mz : St := fun k j => if k = 3 then (if j < 6 then -1 else 0) else if k = 0 then (if j = 6 then -1 else if j = 15 then -1 else if j = 16 then -1 else 0) else 0
theorem RI_0 : RI 0 cz mz := by
  refine ⟨?_, ?_, ?_, ⟨0, ⟨by decide, rfl, rfl, fun j hj => absurd hj (by omega), fun k hk => absurd hk (by omega)⟩, rfl⟩, Or.inl ⟨rfl, rfl⟩, ?_, ?_⟩
  · exact ⟨rfl, rfl, rfl, rfl, rfl, rfl, rfl, rfl⟩
  · exact ⟨⟨by decide, by decide⟩, ⟨by decide, by decide⟩, ⟨by decide, by decide⟩, fun x _ => ⟨show 0 ≤ (0 : Int32).toInt by decide, show (0 : Int32).toInt ≤ 5 by decide⟩⟩
  · exact ⟨fun j _ => ⟨rfl, rfl, rfl, rfl, rfl, rfl, rfl, rfl, rfl⟩, fun j _ => rfl⟩
  · exact ⟨rfl, ⟨by decide, by decide⟩, rfl, rfl⟩
  · exact ⟨by decide, rfl, rfl, fun j hj => absurd hj (by omega), fun i hi => absurd hi (by omega)⟩
/-- the reference's constructor ends with its begin -/
theorem RI_0b : RI 0 cz (beg mz) := RI_tell RI_0 (fun _ _ => rfl) rfl (fun k a b => beg_o mz (Or.inl b)) (fun j _ => by rw [beg_o mz (Or.inl (by decide))]) (TL_TA RI_0.2.2.1 (TA_beg mz)) (TA_beg mz)
end ZERO
