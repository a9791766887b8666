theorem all_cut {α : Type} {p : α → Bool} {l : List α} (n : Nat) (h1 : (l.take n).all p = true) (h2 : (l.drop n).all p = true) : l.all p = true := by
  rw [← List.take_append_drop n l, List.all_append, h1, h2]; rfl
theorem ckl0 : (cl321.take 50).all (fun q => okB 321 q.1 q.2) = true := by decide +kernel
theorem ckl1 : ((cl321.drop 50).take 50).all (fun q => okB 321 q.1 q.2) = true := by decide +kernel
theorem ckl2 : (((cl321.drop 50).drop 50).take 50).all (fun q => okB 321 q.1 q.2) = true := by decide +kernel
theorem ckl3 : ((((cl321.drop 50).drop 50).drop 50).take 50).all (fun q => okB 321 q.1 q.2) = true := by decide +kernel
theorem ckl4 : (((((cl321.drop 50).drop 50).drop 50).drop 50).take 50).all (fun q => okB 321 q.1 q.2) = true := by decide +kernel
theorem ckl5 : ((((((cl321.drop 50).drop 50).drop 50).drop 50).drop 50).take 50).all (fun q => okB 321 q.1 q.2) = true := by decide +kernel
theorem ckl6 : (((((((cl321.drop 50).drop 50).drop 50).drop 50).drop 50).drop 50).take 50).all (fun q => okB 321 q.1 q.2) = true := by decide +kernel
theorem ckl7 : ((((((((cl321.drop 50).drop 50).drop 50).drop 50).drop 50).drop 50).drop 50).take 50).all (fun q => okB 321 q.1 q.2) = true := by decide +kernel
theorem ckl8 : (((((((((cl321.drop 50).drop 50).drop 50).drop 50).drop 50).drop 50).drop 50).drop 50).take 50).all (fun q => okB 321 q.1 q.2) = true := by decide +kernel
theorem ckl9 : ((((((((((cl321.drop 50).drop 50).drop 50).drop 50).drop 50).drop 50).drop 50).drop 50).drop 50).take 50).all (fun q => okB 321 q.1 q.2) = true := by decide +kernel
theorem ckl10 : (((((((((((cl321.drop 50).drop 50).drop 50).drop 50).drop 50).drop 50).drop 50).drop 50).drop 50).drop 50).take 50).all (fun q => okB 321 q.1 q.2) = true := by decide +kernel
theorem ckl11 : ((((((((((((cl321.drop 50).drop 50).drop 50).drop 50).drop 50).drop 50).drop 50).drop 50).drop 50).drop 50).drop 50).take 50).all (fun q => okB 321 q.1 q.2) = true := by decide +kernel
theorem ckl12 : (((((((((((((cl321.drop 50).drop 50).drop 50).drop 50).drop 50).drop 50).drop 50).drop 50).drop 50).drop 50).drop 50).drop 50).take 50).all (fun q => okB 321 q.1 q.2) = true := by decide +kernel
theorem ckl13 : ((((((((((((((cl321.drop 50).drop 50).drop 50).drop 50).drop 50).drop 50).drop 50).drop 50).drop 50).drop 50).drop 50).drop 50).drop 50).take 50).all (fun q => okB 321 q.1 q.2) = true := by decide +kernel
theorem ckl14 : (((((((((((((((cl321.drop 50).drop 50).drop 50).drop 50).drop 50).drop 50).drop 50).drop 50).drop 50).drop 50).drop 50).drop 50).drop 50).drop 50).take 50).all (fun q => okB 321 q.1 q.2) = true := by decide +kernel
theorem ckl15 : ((((((((((((((((cl321.drop 50).drop 50).drop 50).drop 50).drop 50).drop 50).drop 50).drop 50).drop 50).drop 50).drop 50).drop 50).drop 50).drop 50).drop 50).take 50).all (fun q => okB 321 q.1 q.2) = true := by decide +kernel
theorem ckl16 : (((((((((((((((((cl321.drop 50).drop 50).drop 50).drop 50).drop 50).drop 50).drop 50).drop 50).drop 50).drop 50).drop 50).drop 50).drop 50).drop 50).drop 50).drop 50).take 50).all (fun q => okB 321 q.1 q.2) = true := by decide +kernel
theorem ckl17 : ((((((((((((((((((cl321.drop 50).drop 50).drop 50).drop 50).drop 50).drop 50).drop 50).drop 50).drop 50).drop 50).drop 50).drop 50).drop 50).drop 50).drop 50).drop 50).drop 50).take 50).all (fun q => okB 321 q.1 q.2) = true := by decide +kernel
theorem ckl18 : (((((((((((((((((((cl321.drop 50).drop 50).drop 50).drop 50).drop 50).drop 50).drop 50).drop 50).drop 50).drop 50).drop 50).drop 50).drop 50).drop 50).drop 50).drop 50).drop 50).drop 50).take 50).all (fun q => okB 321 q.1 q.2) = true := by decide +kernel
theorem ckl19 : ((((((((((((((((((((cl321.drop 50).drop 50).drop 50).drop 50).drop 50).drop 50).drop 50).drop 50).drop 50).drop 50).drop 50).drop 50).drop 50).drop 50).drop 50).drop 50).drop 50).drop 50).drop 50).take 50).all (fun q => okB 321 q.1 q.2) = true := by decide +kernel
theorem ckl20 : (((((((((((((((((((((cl321.drop 50).drop 50).drop 50).drop 50).drop 50).drop 50).drop 50).drop 50).drop 50).drop 50).drop 50).drop 50).drop 50).drop 50).drop 50).drop 50).drop 50).drop 50).drop 50).drop 50).take 50).all (fun q => okB 321 q.1 q.2) = true := by decide +kernel
theorem ckl21 : (((((((((((((((((((((cl321.drop 50).drop 50).drop 50).drop 50).drop 50).drop 50).drop 50).drop 50).drop 50).drop 50).drop 50).drop 50).drop 50).drop 50).drop 50).drop 50).drop 50).drop 50).drop 50).drop 50).drop 50).all (fun q => okB 321 q.1 q.2) = true := by decide +kernel
theorem ck321 : cl321.all (fun q => okB 321 q.1 q.2) = true := all_cut 50 ckl0 (all_cut 50 ckl1 (all_cut 50 ckl2 (all_cut 50 ckl3 (all_cut 50 ckl4 (all_cut 50 ckl5 (all_cut 50 ckl6 (all_cut 50 ckl7 (all_cut 50 ckl8 (all_cut 50 ckl9 (all_cut 50 ckl10 (all_cut 50 ckl11 (all_cut 50 ckl12 (all_cut 50 ckl13 (all_cut 50 ckl14 (all_cut 50 ckl15 (all_cut 50 ckl16 (all_cut 50 ckl17 (all_cut 50 ckl18 (all_cut 50 ckl19 (all_cut 50 ckl20 (ckl21)))))))))))))))))))))
