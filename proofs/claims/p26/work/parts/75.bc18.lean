theorem fS_zu : fS = zu (zu (zu (fun _ => 0) 4 3) 5 5) 7 20 := by
  funext i
  show (if i = 4 then (3 : Int) else if i = 5 then 5 else if i = 7 then 20 else 0) = if i = 7 then 20 else if i = 5 then 5 else if i = 4 then 3 else 0
  by_cases h4 : i = 4 <;> by_cases h5 : i = 5 <;> by_cases h7 : i = 7 <;> simp [h4, h5, h7] <;> omega
theorem f1_eq : f1 = addCell (addCell (addCell (addCell (addCell (addCell (addCell (addCell (addCell (addCell (addCell (addCell (addCell (addCell (begun (zu (zu (zu (fun _ => 0) 4 3) 5 5) 7 20)) 0 2) 1 1) 3 1) 5 1) 7 1) 7 2) 4 0) 1 0) 3 0) 2 0) 4 2) 2 0) 1 0) 0 2 := by
  rw [← fS_zu]
  rfl
