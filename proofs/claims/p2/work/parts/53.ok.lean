set_option maxRecDepth 1000000 in
set_option maxHeartbeats 4000000 in
theorem ok_MO_cutUp : jj_okc y_MO_cutUp 0 := ⟨jw 1133 rfl rfl, jw 149 (by decide +kernel) rfl, by decide, by decide, by decide +kernel, by decide⟩
