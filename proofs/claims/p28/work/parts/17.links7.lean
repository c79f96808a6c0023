set_option maxRecDepth 100000 in
theorem lk_L_201 : LkS RL 201 yL_areMovements cL_areMovements 17 (some .boolean) 2 := ⟨(WA_of (i := 604) (by decide +kernel) (by decide +kernel)), (WA_of (i := 605) (by decide +kernel) (by decide +kernel)), (WA_of (i := 18) (by decide +kernel) (by decide +kernel)), (WA_of (i := 606) rfl (by decide +kernel)), by decide, by decide, by decide +kernel⟩
