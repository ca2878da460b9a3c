/-! the law's calls: words and room -/
set_option maxRecDepth 100000 in
theorem cwlaw_L_cell {s : State} {args : Array Value} (hts : ∀ w ∈ wsL_law, w.before args s = true) : CallB room_1 s args RL 12 yL_cell cL_cell 2 (some .int) wsL_cell ({ frames := 0, cells := 0, slots := 0, locals := 0 }) 0 0 2 ∧ (Cond.static yL_cell).before args s = true := va_cwS 2 hts gL_law_L_cell rfl rfl rfl (by decide +kernel) ⟨Nat.le_of_ble_eq_true rfl, Nat.le_of_ble_eq_true rfl⟩
set_option maxRecDepth 100000 in
theorem cwlaw_L_below {s : State} {args : Array Value} (hts : ∀ w ∈ wsL_law, w.before args s = true) : CallB room_1 s args RL 18 yL_below cL_below 2 (some .int) wsL_below ({ frames := 0, cells := 0, slots := 0, locals := 0 }) 0 0 2 ∧ (Cond.static yL_below).before args s = true := va_cwS 2 hts gL_law_L_below rfl rfl rfl (by decide +kernel) ⟨Nat.le_of_ble_eq_true rfl, Nat.le_of_ble_eq_true rfl⟩
set_option maxRecDepth 100000 in
theorem cwlaw_make {s : State} {args : Array Value} (hts : ∀ w ∈ wsL_law, w.before args s = true) : CallW room_1 s args RL RX1 22 yX1_make cX1_make 2 (some .int) wsX1_make ({ frames := 7, cells := 6, slots := 78, locals := 103 }) 6 78 1 := cwV 1 hts gL_law_X1_make rfl rfl rfl (by decide +kernel) ⟨Nat.le_of_ble_eq_true rfl, Nat.le_of_ble_eq_true rfl⟩
set_option maxRecDepth 100000 in
theorem cwlaw_count {s : State} {args : Array Value} (hts : ∀ w ∈ wsL_law, w.before args s = true) : CallW room_1 s args RL RX1 26 yX1_count cX1_count 2 (some .int) wsX1_count ({ frames := 7, cells := 1, slots := 6, locals := 155 }) 1 6 1 := cwV 1 hts gL_law_X1_count rfl rfl rfl (by decide +kernel) ⟨Nat.le_of_ble_eq_true rfl, Nat.le_of_ble_eq_true rfl⟩
set_option maxRecDepth 100000 in
theorem cwlaw_stick {s : State} {args : Array Value} (hts : ∀ w ∈ wsL_law, w.before args s = true) : CallW room_1 s args RL RX1 29 yX1_stick cX1_stick 4 (some .int) wsX1_stick ({ frames := 7, cells := 2, slots := 12, locals := 110 }) 2 12 2 := cwV 2 hts gL_law_X1_stick rfl rfl rfl (by decide +kernel) ⟨Nat.le_of_ble_eq_true rfl, Nat.le_of_ble_eq_true rfl⟩
set_option maxRecDepth 100000 in
theorem cwlaw_roll {s : State} {args : Array Value} (hts : ∀ w ∈ wsL_law, w.before args s = true) : CallW room_1 s args RL RX1 32 yX1_roll cX1_roll 4 (some .int) wsX1_roll ({ frames := 7, cells := 3, slots := 18, locals := 104 }) 3 18 2 := cwV 2 hts gL_law_X1_roll rfl rfl rfl (by decide +kernel) ⟨Nat.le_of_ble_eq_true rfl, Nat.le_of_ble_eq_true rfl⟩
set_option maxRecDepth 100000 in
theorem cwlaw_carve {s : State} {args : Array Value} (hts : ∀ w ∈ wsL_law, w.before args s = true) : CallW room_1 s args RL RX1 43 yX1_carve cX1_carve 7 (some .int) wsX1_carve ({ frames := 7, cells := 4, slots := 24, locals := 104 }) 4 24 4 := cwV 4 hts gL_law_X1_carve rfl rfl rfl (by decide +kernel) ⟨Nat.le_of_ble_eq_true rfl, Nat.le_of_ble_eq_true rfl⟩
set_option maxRecDepth 100000 in
theorem cwlaw_L_told {s : State} {args : Array Value} (hts : ∀ w ∈ wsL_law, w.before args s = true) : CallB room_1 s args RL 57 yL_told cL_told 4 (some (.array .int)) wsL_told ({ frames := 8, cells := 3, slots := 72, locals := 134 }) 3 72 2 ∧ (Cond.static yL_told).before args s = true := va_cwS 2 hts gL_law_L_told rfl rfl rfl (by decide +kernel) ⟨Nat.le_of_ble_eq_true rfl, Nat.le_of_ble_eq_true rfl⟩
set_option maxRecDepth 100000 in
theorem cwlaw_digest {s : State} {args : Array Value} (hts : ∀ w ∈ wsL_law, w.before args s = true) : CallW room_1 s args RL RX1 61 yX1_digest cX1_digest 5 (some .long) wsX1_digest ({ frames := 7, cells := 0, slots := 0, locals := 155 }) 0 0 0 := cwV 0 hts gL_law_X1_digest rfl rfl rfl (by decide +kernel) ⟨Nat.le_of_ble_eq_true rfl, Nat.le_of_ble_eq_true rfl⟩
set_option maxRecDepth 100000 in
theorem cwlaw_pieces {s : State} {args : Array Value} (hts : ∀ w ∈ wsL_law, w.before args s = true) : CallW room_1 s args RL RX1 65 yX1_pieces cX1_pieces 4 (some .int) wsX1_pieces ({ frames := 7, cells := 2, slots := 12, locals := 111 }) 2 12 2 := cwV 2 hts gL_law_X1_pieces rfl rfl rfl (by decide +kernel) ⟨Nat.le_of_ble_eq_true rfl, Nat.le_of_ble_eq_true rfl⟩
set_option maxRecDepth 100000 in
theorem cwlaw_fits {s : State} {args : Array Value} (hts : ∀ w ∈ wsL_law, w.before args s = true) : CallW room_1 s args RL RX1 68 yX1_fits cX1_fits 5 (some .boolean) wsX1_fits ({ frames := 7, cells := 2, slots := 12, locals := 104 }) 2 12 2 := cwV 2 hts gL_law_X1_fits rfl rfl rfl (by decide +kernel) ⟨Nat.le_of_ble_eq_true rfl, Nat.le_of_ble_eq_true rfl⟩
set_option maxRecDepth 100000 in
theorem cwlaw_strength {s : State} {args : Array Value} (hts : ∀ w ∈ wsL_law, w.before args s = true) : CallW room_1 s args RL RX1 72 yX1_strength cX1_strength 4 (some .int) wsX1_strength ({ frames := 7, cells := 2, slots := 12, locals := 104 }) 2 12 2 := cwV 2 hts gL_law_X1_strength rfl rfl rfl (by decide +kernel) ⟨Nat.le_of_ble_eq_true rfl, Nat.le_of_ble_eq_true rfl⟩
set_option maxRecDepth 100000 in
theorem cwlaw_rune {s : State} {args : Array Value} (hts : ∀ w ∈ wsL_law, w.before args s = true) : CallW room_1 s args RL RX1 75 yX1_rune cX1_rune 5 (some .int) wsX1_rune ({ frames := 7, cells := 2, slots := 12, locals := 104 }) 2 12 3 := cwV 3 hts gL_law_X1_rune rfl rfl rfl (by decide +kernel) ⟨Nat.le_of_ble_eq_true rfl, Nat.le_of_ble_eq_true rfl⟩
set_option maxRecDepth 100000 in
theorem cwlaw_mean {s : State} {args : Array Value} (hts : ∀ w ∈ wsL_law, w.before args s = true) : CallW room_1 s args RL RX1 85 yX1_mean cX1_mean 2 (some .double) wsX1_mean ({ frames := 6, cells := 0, slots := 0, locals := 134 }) 0 0 0 := cwV 0 hts gL_law_X1_mean rfl rfl rfl (by decide +kernel) ⟨Nat.le_of_ble_eq_true rfl, Nat.le_of_ble_eq_true rfl⟩
set_option maxRecDepth 100000 in
theorem cwlaw_rhyme {s : State} {args : Array Value} (hts : ∀ w ∈ wsL_law, w.before args s = true) : CallW room_1 s args RL RX1 89 yX1_rhyme cX1_rhyme 6 (some .int) wsX1_rhyme ({ frames := 7, cells := 3, slots := 18, locals := 119 }) 3 18 3 := cwV 3 hts gL_law_X1_rhyme rfl rfl rfl (by decide +kernel) ⟨Nat.le_of_ble_eq_true rfl, Nat.le_of_ble_eq_true rfl⟩
set_option maxRecDepth 100000 in
theorem cwlaw_size {s : State} {args : Array Value} (hts : ∀ w ∈ wsL_law, w.before args s = true) : CallW room_1 s args RL RX1 92 yX1_size cX1_size 4 (some .int) wsX1_size ({ frames := 7, cells := 2, slots := 12, locals := 104 }) 2 12 2 := cwV 2 hts gL_law_X1_size rfl rfl rfl (by decide +kernel) ⟨Nat.le_of_ble_eq_true rfl, Nat.le_of_ble_eq_true rfl⟩
set_option maxRecDepth 100000 in
theorem cwlaw_best {s : State} {args : Array Value} (hts : ∀ w ∈ wsL_law, w.before args s = true) : CallW room_1 s args RL RX1 100 yX1_best cX1_best 10 (some .int) wsX1_best ({ frames := 7, cells := 3, slots := 18, locals := 119 }) 3 18 3 := cwV 3 hts gL_law_X1_best rfl rfl rfl (by decide +kernel) ⟨Nat.le_of_ble_eq_true rfl, Nat.le_of_ble_eq_true rfl⟩
set_option maxRecDepth 100000 in
theorem cwlaw_has {s : State} {args : Array Value} (hts : ∀ w ∈ wsL_law, w.before args s = true) : CallW room_1 s args RL RX1 103 yX1_has cX1_has 8 (some .int) wsX1_has ({ frames := 7, cells := 3, slots := 18, locals := 104 }) 3 18 3 := cwV 3 hts gL_law_X1_has rfl rfl rfl (by decide +kernel) ⟨Nat.le_of_ble_eq_true rfl, Nat.le_of_ble_eq_true rfl⟩
set_option maxRecDepth 100000 in
theorem cwlaw_row {s : State} {args : Array Value} (hts : ∀ w ∈ wsL_law, w.before args s = true) : CallW room_1 s args RL RX1 106 yX1_row cX1_row 7 (some .int) wsX1_row ({ frames := 7, cells := 3, slots := 18, locals := 119 }) 3 18 2 := cwV 2 hts gL_law_X1_row rfl rfl rfl (by decide +kernel) ⟨Nat.le_of_ble_eq_true rfl, Nat.le_of_ble_eq_true rfl⟩
