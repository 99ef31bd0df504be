def UU : List Cond := lw_tbl.filter goodWord
theorem UU_in : ∀ w ∈ UU, w ∈ lw_tbl := fun w h => (List.mem_filter.mp h).1
theorem UU_good : ∀ w ∈ UU, (w.onTables && w.keeps) = true ∨ ∃ ty, w = .arrayClass ty := fun w h => good_of_word (List.mem_filter.mp h).2
theorem mU_ {w : Cond} (h : w ∈ tables_1) (hg : goodWord w = true) : w ∈ UU := List.mem_filter.mpr ⟨List.mem_append_right _ h, hg⟩
theorem mV1 {w : Cond} (h : w ∈ tables_1_1) : w ∈ tables_1 := List.mem_append_left _ h
theorem mU1 {w : Cond} (i : Nat) (h : tables_1_1[i]? = some w) (hg : goodWord w = true) : w ∈ UU := mU_ (mV1 (List.mem_of_getElem? h)) hg
theorem mV2 {w : Cond} (h : w ∈ tables_1_2) : w ∈ tables_1 := List.mem_append_right _ (List.mem_append_left _ h)
theorem mU2 {w : Cond} (i : Nat) (h : tables_1_2[i]? = some w) (hg : goodWord w = true) : w ∈ UU := mU_ (mV2 (List.mem_of_getElem? h)) hg
theorem mV3 {w : Cond} (h : w ∈ tables_1_3) : w ∈ tables_1 := List.mem_append_right _ (List.mem_append_right _ (List.mem_append_left _ h))
theorem mU3 {w : Cond} (i : Nat) (h : tables_1_3[i]? = some w) (hg : goodWord w = true) : w ∈ UU := mU_ (mV3 (List.mem_of_getElem? h)) hg
theorem mV4 {w : Cond} (h : w ∈ tables_1_4) : w ∈ tables_1 := List.mem_append_right _ (List.mem_append_right _ (List.mem_append_right _ h))
theorem mU4 {w : Cond} (i : Nat) (h : tables_1_4[i]? = some w) (hg : goodWord w = true) : w ∈ UU := mU_ (mV4 (List.mem_of_getElem? h)) hg
theorem mS1 {y : MethodName} {k : Nat} (i : Nat) (h : lw_privs_1[i]? = some (y, k)) : Cond.selects y.cls y y ∈ UU := List.mem_filter.mpr ⟨List.mem_append_left _ (List.mem_map.mpr ⟨(y, k), List.mem_append_left _ (List.mem_of_getElem? h), rfl⟩), rfl⟩
theorem mS2 {y : MethodName} {k : Nat} (i : Nat) (h : lw_privs_2[i]? = some (y, k)) : Cond.selects y.cls y y ∈ UU := List.mem_filter.mpr ⟨List.mem_append_left _ (List.mem_map.mpr ⟨(y, k), List.mem_append_right _ (List.mem_of_getElem? h), rfl⟩), rfl⟩
theorem inX0 : ∀ w ∈ wsX00, w ∈ UU := by
  show ∀ w ∈ [u_lay RX0 TX0 0, u_lay RX0 TX0 1], w ∈ UU
  exact List.forall_mem_cons.mpr ⟨(mU1 142 rfl rfl), List.forall_mem_cons.mpr ⟨(mU1 144 rfl rfl), fun _ h => absurd h List.not_mem_nil⟩⟩
theorem inX1 : ∀ w ∈ wsX10, w ∈ UU := by
  show ∀ w ∈ [u_lay RX1 TX1 0, u_lay RX1 TX1 1, u_lay RX1 TX1 2, u_lay RX1 TX1 3, u_lay RX1 TX1 4], w ∈ UU
  exact List.forall_mem_cons.mpr ⟨(mU1 158 rfl rfl), List.forall_mem_cons.mpr ⟨(mU1 160 rfl rfl), List.forall_mem_cons.mpr ⟨(mU1 162 rfl rfl), List.forall_mem_cons.mpr ⟨(mU1 164 rfl rfl), List.forall_mem_cons.mpr ⟨(mU1 166 rfl rfl), fun _ h => absurd h List.not_mem_nil⟩⟩⟩⟩⟩
theorem inX2 : ∀ w ∈ wsX20, w ∈ UU := by
  show ∀ w ∈ [u_lay RX2 TX2 0, u_lay RX2 TX2 1, u_lay RX2 TX2 2, u_lay RX2 TX2 3, u_lay RX2 TX2 4, u_lay RX2 TX2 5], w ∈ UU
  exact List.forall_mem_cons.mpr ⟨(mU1 110 rfl rfl), List.forall_mem_cons.mpr ⟨(mU1 112 rfl rfl), List.forall_mem_cons.mpr ⟨(mU1 114 rfl rfl), List.forall_mem_cons.mpr ⟨(mU1 116 rfl rfl), List.forall_mem_cons.mpr ⟨(mU1 118 rfl rfl), List.forall_mem_cons.mpr ⟨(mU1 120 rfl rfl), fun _ h => absurd h List.not_mem_nil⟩⟩⟩⟩⟩⟩
theorem inX3 : ∀ w ∈ wsX30, w ∈ UU := by
  show ∀ w ∈ [u_lay RX3 TX3 0, u_lay RX3 TX3 1, u_lay RX3 TX3 2, u_lay RX3 TX3 3], w ∈ UU
  exact List.forall_mem_cons.mpr ⟨(mU1 31 rfl rfl), List.forall_mem_cons.mpr ⟨(mU1 33 rfl rfl), List.forall_mem_cons.mpr ⟨(mU1 35 rfl rfl), List.forall_mem_cons.mpr ⟨(mU1 37 rfl rfl), fun _ h => absurd h List.not_mem_nil⟩⟩⟩⟩
theorem inX4 : ∀ w ∈ wsX40, w ∈ UU := by
  show ∀ w ∈ [u_lay RX4 TX4 0, u_lay RX4 TX4 1, u_lay RX4 TX4 2, u_lay RX4 TX4 3, u_lay RX4 TX4 4, u_lay RX4 TX4 5], w ∈ UU
  exact List.forall_mem_cons.mpr ⟨(mU1 53 rfl rfl), List.forall_mem_cons.mpr ⟨(mU1 55 rfl rfl), List.forall_mem_cons.mpr ⟨(mU1 57 rfl rfl), List.forall_mem_cons.mpr ⟨(mU1 59 rfl rfl), List.forall_mem_cons.mpr ⟨(mU1 61 rfl rfl), List.forall_mem_cons.mpr ⟨(mU1 63 rfl rfl), fun _ h => absurd h List.not_mem_nil⟩⟩⟩⟩⟩⟩
theorem inX5 : ∀ w ∈ wsX50, w ∈ UU := by
  show ∀ w ∈ [u_lay RX5 TX5 0, u_lay RX5 TX5 1, u_lay RX5 TX5 2, u_lay RX5 TX5 3], w ∈ UU
  exact List.forall_mem_cons.mpr ⟨(mU1 76 rfl rfl), List.forall_mem_cons.mpr ⟨(mU1 78 rfl rfl), List.forall_mem_cons.mpr ⟨(mU1 80 rfl rfl), List.forall_mem_cons.mpr ⟨(mU1 82 rfl rfl), fun _ h => absurd h List.not_mem_nil⟩⟩⟩⟩
theorem inX6 : ∀ w ∈ wsX60, w ∈ UU := by
  show ∀ w ∈ [u_lay RX6 TX6 0], w ∈ UU
  exact List.forall_mem_cons.mpr ⟨(mU1 131 rfl rfl), fun _ h => absurd h List.not_mem_nil⟩
theorem inX7 : ∀ w ∈ wsX70, w ∈ UU := by
  show ∀ w ∈ [u_lay RX7 TX7 0, u_lay RX7 TX7 1], w ∈ UU
  exact List.forall_mem_cons.mpr ⟨(mU1 93 rfl rfl), List.forall_mem_cons.mpr ⟨(mU1 95 rfl rfl), fun _ h => absurd h List.not_mem_nil⟩⟩
theorem inX8 : ∀ w ∈ wsX80, w ∈ UU := by
  show ∀ w ∈ [u_lay RX8 TX8 0, u_lay RX8 TX8 1, u_lay RX8 TX8 2, u_lay RX8 TX8 3, u_lay RX8 TX8 4, u_lay RX8 TX8 5, u_lay RX8 TX8 6, u_lay RX8 TX8 7, u_lay RX8 TX8 8], w ∈ UU
  exact List.forall_mem_cons.mpr ⟨(mU1 178 rfl rfl), List.forall_mem_cons.mpr ⟨(mU1 180 rfl rfl), List.forall_mem_cons.mpr ⟨(mU1 182 rfl rfl), List.forall_mem_cons.mpr ⟨(mU1 184 rfl rfl), List.forall_mem_cons.mpr ⟨(mU1 186 rfl rfl), List.forall_mem_cons.mpr ⟨(mU1 188 rfl rfl), List.forall_mem_cons.mpr ⟨(mU1 190 rfl rfl), List.forall_mem_cons.mpr ⟨(mU1 192 rfl rfl), List.forall_mem_cons.mpr ⟨(mU1 194 rfl rfl), fun _ h => absurd h List.not_mem_nil⟩⟩⟩⟩⟩⟩⟩⟩⟩
theorem inX9 : ∀ w ∈ wsX90, w ∈ UU := by
  show ∀ w ∈ [u_lay RX9 TX9 0, u_lay RX9 TX9 1, u_lay RX9 TX9 2, u_lay RX9 TX9 3, u_lay RX9 TX9 4, u_lay RX9 TX9 5, u_lay RX9 TX9 6, u_lay RX9 TX9 7, u_lay RX9 TX9 8, u_lay RX9 TX9 9, u_lay RX9 TX9 10, u_lay RX9 TX9 11, u_lay RX9 TX9 12, u_lay RX9 TX9 13, u_lay RX9 TX9 14, u_lay RX9 TX9 15, u_lay RX9 TX9 16, u_lay RX9 TX9 17, u_lay RX9 TX9 18, u_lay RX9 TX9 19, u_lay RX9 TX9 20, u_lay RX9 TX9 21, u_lay RX9 TX9 22, u_lay RX9 TX9 23, u_lay RX9 TX9 24], w ∈ UU
  exact List.forall_mem_cons.mpr ⟨(mU3 77 rfl rfl), List.forall_mem_cons.mpr ⟨(mU3 79 rfl rfl), List.forall_mem_cons.mpr ⟨(mU3 81 rfl rfl), List.forall_mem_cons.mpr ⟨(mU3 83 rfl rfl), List.forall_mem_cons.mpr ⟨(mU3 85 rfl rfl), List.forall_mem_cons.mpr ⟨(mU3 87 rfl rfl), List.forall_mem_cons.mpr ⟨(mU3 89 rfl rfl), List.forall_mem_cons.mpr ⟨(mU3 91 rfl rfl), List.forall_mem_cons.mpr ⟨(mU3 93 rfl rfl), List.forall_mem_cons.mpr ⟨(mU3 95 rfl rfl), List.forall_mem_cons.mpr ⟨(mU3 97 rfl rfl), List.forall_mem_cons.mpr ⟨(mU3 99 rfl rfl), List.forall_mem_cons.mpr ⟨(mU3 101 rfl rfl), List.forall_mem_cons.mpr ⟨(mU3 103 rfl rfl), List.forall_mem_cons.mpr ⟨(mU3 105 rfl rfl), List.forall_mem_cons.mpr ⟨(mU3 107 rfl rfl), List.forall_mem_cons.mpr ⟨(mU3 109 rfl rfl), List.forall_mem_cons.mpr ⟨(mU3 111 rfl rfl), List.forall_mem_cons.mpr ⟨(mU3 113 rfl rfl), List.forall_mem_cons.mpr ⟨(mU3 115 rfl rfl), List.forall_mem_cons.mpr ⟨(mU3 117 rfl rfl), List.forall_mem_cons.mpr ⟨(mU3 119 rfl rfl), List.forall_mem_cons.mpr ⟨(mU3 121 rfl rfl), List.forall_mem_cons.mpr ⟨(mU3 123 rfl rfl), List.forall_mem_cons.mpr ⟨(mU3 125 rfl rfl), fun _ h => absurd h List.not_mem_nil⟩⟩⟩⟩⟩⟩⟩⟩⟩⟩⟩⟩⟩⟩⟩⟩⟩⟩⟩⟩⟩⟩⟩⟩⟩
