theorem ti_cok_0 : ∀ e ∈ ti_cs_0, ti_COK 0 e.1 e.2 := fun _ h => absurd h List.not_mem_nil
theorem ti_c_1_125 : ti_COK 1 125 (.long (15)) := ⟨fun _ h => (by cases h), fun _ h => (by cases h; exact ti_in 1206 (by decide +kernel) (by decide +kernel)), fun _ h => (by cases h)⟩
theorem ti_cok_1 : ∀ e ∈ ti_cs_1, ti_COK 1 e.1 e.2 := List.forall_mem_cons.mpr ⟨ti_c_1_125, fun _ h => absurd h List.not_mem_nil⟩
theorem ti_cok_2 : ∀ e ∈ ti_cs_2, ti_COK 2 e.1 e.2 := fun _ h => absurd h List.not_mem_nil
theorem ti_c_3_178 : ti_COK 3 178 (.int (1103515245)) := ⟨fun _ h => (by cases h; exact ti_in 1257 (by decide +kernel) (by decide +kernel)), fun _ h => (by cases h), fun _ h => (by cases h)⟩
theorem ti_cok_3 : ∀ e ∈ ti_cs_3, ti_COK 3 e.1 e.2 := List.forall_mem_cons.mpr ⟨ti_c_3_178, fun _ h => absurd h List.not_mem_nil⟩
theorem ti_c_4_29 : ti_COK 4 29 (.long (-1)) := ⟨fun _ h => (by cases h), fun _ h => (by cases h; exact ti_in 1386 (by decide +kernel) (by decide +kernel)), fun _ h => (by cases h)⟩
theorem ti_cok_4 : ∀ e ∈ ti_cs_4, ti_COK 4 e.1 e.2 := List.forall_mem_cons.mpr ⟨ti_c_4_29, fun _ h => absurd h List.not_mem_nil⟩
theorem ti_c_5_s : ti_COK 5 84 (.ref 900) := ⟨fun _ h => (by cases h), fun _ h => (by cases h), fun _ h => (by cases h; exact ⟨rfl, rfl, rfl⟩)⟩
theorem ti_cok_5 : ∀ e ∈ ti_cs_5, ti_COK 5 e.1 e.2 := List.forall_mem_cons.mpr ⟨ti_c_5_s, fun _ h => absurd h List.not_mem_nil⟩
theorem ti_cok_6 : ∀ e ∈ ti_cs_6, ti_COK 6 e.1 e.2 := fun _ h => absurd h List.not_mem_nil
theorem ti_cok_7 : ∀ e ∈ ti_cs_7, ti_COK 7 e.1 e.2 := fun _ h => absurd h List.not_mem_nil
theorem ti_cok_8 : ∀ e ∈ ti_cs_8, ti_COK 8 e.1 e.2 := fun _ h => absurd h List.not_mem_nil
theorem ti_cok_9 : ∀ e ∈ ti_cs_9, ti_COK 9 e.1 e.2 := fun _ h => absurd h List.not_mem_nil
theorem ti_cok_10 : ∀ e ∈ ti_cs_10, ti_COK 10 e.1 e.2 := fun _ h => absurd h List.not_mem_nil
theorem ti_cok_11 : ∀ e ∈ ti_cs_11, ti_COK 11 e.1 e.2 := fun _ h => absurd h List.not_mem_nil
theorem ti_c_12_329 : ti_COK 12 329 (.int (1000000)) := ⟨fun _ h => (by cases h; exact ti_in 1834 (by decide +kernel) (by decide +kernel)), fun _ h => (by cases h), fun _ h => (by cases h)⟩
theorem ti_c_12_376 : ti_COK 12 376 (.long (10)) := ⟨fun _ h => (by cases h), fun _ h => (by cases h; exact ti_in 1955 (by decide +kernel) (by decide +kernel)), fun _ h => (by cases h)⟩
theorem ti_c_12_388 : ti_COK 12 388 (.int (1103515245)) := ⟨fun _ h => (by cases h; exact ti_in 1981 (by decide +kernel) (by decide +kernel)), fun _ h => (by cases h), fun _ h => (by cases h)⟩
theorem ti_cok_12 : ∀ e ∈ ti_cs_12, ti_COK 12 e.1 e.2 := List.forall_mem_cons.mpr ⟨ti_c_12_329, List.forall_mem_cons.mpr ⟨ti_c_12_376, List.forall_mem_cons.mpr ⟨ti_c_12_388, fun _ h => absurd h List.not_mem_nil⟩⟩⟩
theorem ti_c_13_265 : ti_COK 13 265 (.int (1431655765)) := ⟨fun _ h => (by cases h; exact ti_in 727 (by decide +kernel) (by decide +kernel)), fun _ h => (by cases h), fun _ h => (by cases h)⟩
theorem ti_c_13_266 : ti_COK 13 266 (.int (858993459)) := ⟨fun _ h => (by cases h; exact ti_in 728 (by decide +kernel) (by decide +kernel)), fun _ h => (by cases h), fun _ h => (by cases h)⟩
theorem ti_c_13_267 : ti_COK 13 267 (.int (252645135)) := ⟨fun _ h => (by cases h; exact ti_in 729 (by decide +kernel) (by decide +kernel)), fun _ h => (by cases h), fun _ h => (by cases h)⟩
theorem ti_cok_13 : ∀ e ∈ ti_cs_13, ti_COK 13 e.1 e.2 := List.forall_mem_cons.mpr ⟨ti_c_13_265, List.forall_mem_cons.mpr ⟨ti_c_13_266, List.forall_mem_cons.mpr ⟨ti_c_13_267, fun _ h => absurd h List.not_mem_nil⟩⟩⟩
theorem ti_fok_all (o : Nat) : ∀ e ∈ ti_frL.getD o [], ti_FOK o e.1 e.2.1 e.2.2.1 e.2.2.2 := by
  match o with
  | 0 => exact ti_fok_0
  | 1 => exact ti_fok_1
  | 2 => exact ti_fok_2
  | 3 => exact ti_fok_3
  | 4 => exact ti_fok_4
  | 5 => exact ti_fok_5
  | 6 => exact ti_fok_6
  | 7 => exact ti_fok_7
  | 8 => exact ti_fok_8
  | 9 => exact ti_fok_9
  | 10 => exact ti_fok_10
  | 11 => exact ti_fok_11
  | 12 => exact ti_fok_12
  | 13 => exact ti_fok_13
  | n + 14 => intro e h; simp [ti_frL] at h
theorem ti_fok_of {o i : Nat} {e : Nat × Nat × Nat} (h : ti_fr o i = some e) : ti_FOK o i e.1 e.2.1 e.2.2 := by
  obtain ⟨x, hx, rfl⟩ := Option.map_eq_some_iff.mp h
  have h1 := List.find?_some hx
  have h2 := ti_fok_all o x (List.mem_of_find?_eq_some hx)
  have h3 : x.1 = i := by simpa using h1
  rw [← h3]; exact h2
theorem ti_mok_all (o : Nat) : ∀ e ∈ ti_mrL.getD o [], ti_MOK o e.1 e.2 := by
  match o with
  | 0 => exact ti_mok_0
  | 1 => exact ti_mok_1
  | 2 => exact ti_mok_2
  | 3 => exact ti_mok_3
  | 4 => exact ti_mok_4
  | 5 => exact ti_mok_5
  | 6 => exact ti_mok_6
  | 7 => exact ti_mok_7
  | 8 => exact ti_mok_8
  | 9 => exact ti_mok_9
  | 10 => exact ti_mok_10
  | 11 => exact ti_mok_11
  | 12 => exact ti_mok_12
  | 13 => exact ti_mok_13
  | n + 14 => intro e h; simp [ti_mrL] at h
theorem ti_mok_of {o i : Nat} {e : TC} (h : ti_mr o i = some e) : ti_MOK o i e := by
  obtain ⟨x, hx, rfl⟩ := Option.map_eq_some_iff.mp h
  have h1 := List.find?_some hx
  have h2 := ti_mok_all o x (List.mem_of_find?_eq_some hx)
  have h3 : x.1 = i := by simpa using h1
  rw [← h3]; exact h2
theorem ti_bok_all (o : Nat) : ∀ e ∈ ti_brL.getD o [], ti_BOK o e.1 e.2 := by
  match o with
  | 0 => exact ti_bok_0
  | 1 => exact ti_bok_1
  | 2 => exact ti_bok_2
  | 3 => exact ti_bok_3
  | 4 => exact ti_bok_4
  | 5 => exact ti_bok_5
  | 6 => exact ti_bok_6
  | 7 => exact ti_bok_7
  | 8 => exact ti_bok_8
  | 9 => exact ti_bok_9
  | 10 => exact ti_bok_10
  | 11 => exact ti_bok_11
  | 12 => exact ti_bok_12
  | 13 => exact ti_bok_13
  | n + 14 => intro e h; simp [ti_brL] at h
theorem ti_bok_of {o i : Nat} {e : Nat} (h : ti_br o i = some e) : ti_BOK o i e := by
  obtain ⟨x, hx, rfl⟩ := Option.map_eq_some_iff.mp h
  have h1 := List.find?_some hx
  have h2 := ti_bok_all o x (List.mem_of_find?_eq_some hx)
  have h3 : x.1 = i := by simpa using h1
  rw [← h3]; exact h2
theorem ti_cok_all (o : Nat) : ∀ e ∈ ti_csL.getD o [], ti_COK o e.1 e.2 := by
  match o with
  | 0 => exact ti_cok_0
  | 1 => exact ti_cok_1
  | 2 => exact ti_cok_2
  | 3 => exact ti_cok_3
  | 4 => exact ti_cok_4
  | 5 => exact ti_cok_5
  | 6 => exact ti_cok_6
  | 7 => exact ti_cok_7
  | 8 => exact ti_cok_8
  | 9 => exact ti_cok_9
  | 10 => exact ti_cok_10
  | 11 => exact ti_cok_11
  | 12 => exact ti_cok_12
  | 13 => exact ti_cok_13
  | n + 14 => intro e h; simp [ti_csL] at h
theorem ti_cok_of {o i : Nat} {e : Value} (h : ti_cs o i = some e) : ti_COK o i e := by
  obtain ⟨x, hx, rfl⟩ := Option.map_eq_some_iff.mp h
  have h1 := List.find?_some hx
  have h2 := ti_cok_all o x (List.mem_of_find?_eq_some hx)
  have h3 : x.1 = i := by simpa using h1
  rw [← h3]; exact h2
