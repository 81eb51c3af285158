/-! THE LAW'S CALLS: what a call answers, in class and reference -/
section UN
variable {l : Launch} {D : va_G} {Y : cq_Y} {o0 bo : Nat} {ast ald ahi act acd : Nat → Nat} {n bb d : Nat} {st : SetS} {ld : LodS} {hi : HisS} {ct cd : CatS} {u : MdlS} {fo : Nat → Int64}
theorem lz_u_setRank (R : Rel n bb d st ld hi ct cd u) (hl0 : l.stackTraces = false) (v w : Int32) : ∃ (u' : MdlS) (r : Int32) (k : Int32) (n' bb' d' : Nat) (st' : SetS) (ld' : LodS) (hi' : HisS) (ct' cd' : CatS) (fo' : Nat → Int64), m_X7_setRank u v w = some (u', r) ∧ Rel n' bb' d' st' ld' hi' ct' cd' u' ∧ m_X7_thrown u' = k ∧ (k = 0 → fo' 0 = r.toInt64) ∧ cq_ML l yL_setRank wsL_setRank (cq_rx 8 3 18 127) D Y (lz_C Y o0 ast ald ahi act acd bo st ld hi ct cd fo) [.ref o0, .int v, .int w, .ref bo] (some (.int k)) (lz_C Y o0 ast ald ahi act acd bo st' ld' hi' ct' cd' fo') 3 18 := by
  obtain ⟨u', r, hm, h⟩ := op_setRank R v w
  rcases h with ⟨h1, st', h2, h3⟩ | ⟨h3, (⟨h1, h2⟩ | ⟨h1, h2⟩ | ⟨h1, h2⟩)⟩
  · exact ⟨u', r, 0, _, _, _, st', ld, hi, ct, cd, vp_updL fo (0 : Int32).toNatClampNeg r.toInt64, hm, h3, h1, fun _ => lz_f0, ct_L_setRank_ok l D Y o0 ast st ald ld ahi hi act ct acd cd v w bo fo (st', r) h2 hl0⟩
  · exact ⟨u', r, 1, _, _, _, st, ld, hi, ct, cd, fo, hm, h3, h1, fun h => absurd h (by decide), ct_L_setRank_ex13 l D Y o0 ast st ald ld ahi hi act ct acd cd v w bo fo h2 hl0⟩
  · exact ⟨u', r, 2, _, _, _, st, ld, hi, ct, cd, fo, hm, h3, h1, fun h => absurd h (by decide), ct_L_setRank_ex15 l D Y o0 ast st ald ld ahi hi act ct acd cd v w bo fo h2 hl0⟩
  · exact ⟨u', r, 3, _, _, _, st, ld, hi, ct, cd, fo, hm, h3, h1, fun h => absurd h (by decide), ct_L_setRank_ex17 l D Y o0 ast st ald ld ahi hi act ct acd cd v w bo fo h2 hl0⟩
theorem lz_u_setRule (R : Rel n bb d st ld hi ct cd u) (hl0 : l.stackTraces = false) (v w : Int32) : ∃ (u' : MdlS) (r : Int32) (k : Int32) (n' bb' d' : Nat) (st' : SetS) (ld' : LodS) (hi' : HisS) (ct' cd' : CatS) (fo' : Nat → Int64), m_X7_setRule u v w = some (u', r) ∧ Rel n' bb' d' st' ld' hi' ct' cd' u' ∧ m_X7_thrown u' = k ∧ (k = 0 → fo' 0 = r.toInt64) ∧ cq_ML l yL_setRule wsL_setRule (cq_rx 8 3 18 127) D Y (lz_C Y o0 ast ald ahi act acd bo st ld hi ct cd fo) [.ref o0, .int v, .int w, .ref bo] (some (.int k)) (lz_C Y o0 ast ald ahi act acd bo st' ld' hi' ct' cd' fo') 3 18 := by
  obtain ⟨u', r, hm, h⟩ := op_setRule R v w
  rcases h with ⟨h1, st', h2, h3⟩ | ⟨h3, (⟨h1, h2⟩ | ⟨h1, h2⟩ | ⟨h1, h2⟩)⟩
  · exact ⟨u', r, 0, _, _, _, st', ld, hi, ct, cd, vp_updL fo (0 : Int32).toNatClampNeg r.toInt64, hm, h3, h1, fun _ => lz_f0, ct_L_setRule_ok l D Y o0 ast st ald ld ahi hi act ct acd cd v w bo fo (st', r) h2 hl0⟩
  · exact ⟨u', r, 1, _, _, _, st, ld, hi, ct, cd, fo, hm, h3, h1, fun h => absurd h (by decide), ct_L_setRule_ex13 l D Y o0 ast st ald ld ahi hi act ct acd cd v w bo fo h2 hl0⟩
  · exact ⟨u', r, 2, _, _, _, st, ld, hi, ct, cd, fo, hm, h3, h1, fun h => absurd h (by decide), ct_L_setRule_ex15 l D Y o0 ast st ald ld ahi hi act ct acd cd v w bo fo h2 hl0⟩
  · exact ⟨u', r, 3, _, _, _, st, ld, hi, ct, cd, fo, hm, h3, h1, fun h => absurd h (by decide), ct_L_setRule_ex17 l D Y o0 ast st ald ld ahi hi act ct acd cd v w bo fo h2 hl0⟩
theorem lz_u_setOrder (R : Rel n bb d st ld hi ct cd u) (hl0 : l.stackTraces = false) (v w z : Int32) : ∃ (u' : MdlS) (k : Int32) (n' bb' d' : Nat) (st' : SetS) (ld' : LodS) (hi' : HisS) (ct' cd' : CatS), m_X7_setOrder u v w z = some u' ∧ Rel n' bb' d' st' ld' hi' ct' cd' u' ∧ m_X7_thrown u' = k ∧ cq_ML l yL_setOrder wsL_setOrder (cq_rx 8 4 24 127) D Y (lz_K Y o0 ast ald ahi act acd st ld hi ct cd) [.ref o0, .int v, .int w, .int z] (some (.int k)) (lz_K Y o0 ast ald ahi act acd st' ld' hi' ct' cd') 4 24 := by
  obtain ⟨u', hm, h⟩ := op_setOrder R v w z
  rcases h with ⟨h1, st', h2, h3⟩ | ⟨h3, (⟨h1, h2⟩ | ⟨h1, h2⟩)⟩
  · exact ⟨u', 0, _, _, _, st', ld, hi, ct, cd, hm, h3, h1, ct_L_setOrder_ok l D Y o0 ast st ald ld ahi hi act ct acd cd v w z st' h2 hl0⟩
  · exact ⟨u', 1, _, _, _, st, ld, hi, ct, cd, hm, h3, h1, ct_L_setOrder_ex15 l D Y o0 ast st ald ld ahi hi act ct acd cd v w z h2 hl0⟩
  · exact ⟨u', 2, _, _, _, st, ld, hi, ct, cd, hm, h3, h1, ct_L_setOrder_ex17 l D Y o0 ast st ald ld ahi hi act ct acd cd v w z h2 hl0⟩
theorem lz_u_beginBatch (R : Rel n bb d st ld hi ct cd u) (hl0 : l.stackTraces = false) : ∃ (u' : MdlS) (r : Int32) (k : Int32) (n' bb' d' : Nat) (st' : SetS) (ld' : LodS) (hi' : HisS) (ct' cd' : CatS) (fo' : Nat → Int64), m_X7_beginBatch u = some (u', r) ∧ Rel n' bb' d' st' ld' hi' ct' cd' u' ∧ m_X7_thrown u' = k ∧ (k = 0 → fo' 0 = r.toInt64) ∧ cq_ML l yL_beginBatch wsL_beginBatch (cq_rx 7 1 6 102) D Y (lz_C Y o0 ast ald ahi act acd bo st ld hi ct cd fo) [.ref o0, .ref bo] (some (.int k)) (lz_C Y o0 ast ald ahi act acd bo st' ld' hi' ct' cd' fo') 1 6 := by
  obtain ⟨u', r, hm, h⟩ := op_beginBatch R
  rcases h with ⟨h1, ld', h2, h3⟩ | ⟨h3, h1, h2⟩
  · exact ⟨u', r, 0, _, _, _, st, ld', hi, ct, cd, vp_updL fo (0 : Int32).toNatClampNeg r.toInt64, hm, h3, h1, fun _ => lz_f0, ct_L_beginBatch_ok l D Y o0 ast st ald ld ahi hi act ct acd cd bo fo (ld', r) h2 hl0⟩
  · exact ⟨u', r, 1, _, _, _, st, ld, hi, ct, cd, fo, hm, h3, h1, fun h => absurd h (by decide), ct_L_beginBatch_ex17 l D Y o0 ast st ald ld ahi hi act ct acd cd bo fo h2 hl0⟩
theorem lz_u_key (R : Rel n bb d st ld hi ct cd u) (hl0 : l.stackTraces = false) (v w : Int32) : ∃ (u' : MdlS) (r : Int32) (k : Int32) (n' bb' d' : Nat) (st' : SetS) (ld' : LodS) (hi' : HisS) (ct' cd' : CatS) (fo' : Nat → Int64), m_X7_key u v w = some (u', r) ∧ Rel n' bb' d' st' ld' hi' ct' cd' u' ∧ m_X7_thrown u' = k ∧ (k = 0 → fo' 0 = r.toInt64) ∧ cq_ML l yL_key wsL_key (cq_rx 8 2 12 127) D Y (lz_C Y o0 ast ald ahi act acd bo st ld hi ct cd fo) [.ref o0, .int v, .int w, .ref bo] (some (.int k)) (lz_C Y o0 ast ald ahi act acd bo st' ld' hi' ct' cd' fo') 2 12 := by
  obtain ⟨u', r, hm, h⟩ := op_key R v w
  rcases h with ⟨h1, ld', h2, h3⟩ | ⟨h3, (⟨h1, h2⟩ | ⟨h1, h2⟩)⟩
  · exact ⟨u', r, 0, _, _, _, st, ld', hi, ct, cd, vp_updL fo (0 : Int32).toNatClampNeg r.toInt64, hm, h3, h1, fun _ => lz_f0, ct_L_key_ok l D Y o0 ast st ald ld ahi hi act ct acd cd v w bo fo (ld', r) h2 hl0⟩
  · exact ⟨u', r, 1, _, _, _, st, ld, hi, ct, cd, fo, hm, h3, h1, fun h => absurd h (by decide), ct_L_key_ex13 l D Y o0 ast st ald ld ahi hi act ct acd cd v w bo fo h2 hl0⟩
  · exact ⟨u', r, 2, _, _, _, st, ld, hi, ct, cd, fo, hm, h3, h1, fun h => absurd h (by decide), ct_L_key_ex15 l D Y o0 ast st ald ld ahi hi act ct acd cd v w bo fo h2 hl0⟩
theorem lz_u_field (R : Rel n bb d st ld hi ct cd u) (hl0 : l.stackTraces = false) (v w : Int32) : ∃ (u' : MdlS) (r : Int32) (k : Int32) (n' bb' d' : Nat) (st' : SetS) (ld' : LodS) (hi' : HisS) (ct' cd' : CatS) (fo' : Nat → Int64), m_X7_field u v w = some (u', r) ∧ Rel n' bb' d' st' ld' hi' ct' cd' u' ∧ m_X7_thrown u' = k ∧ (k = 0 → fo' 0 = r.toInt64) ∧ cq_ML l yL_field wsL_field (cq_rx 8 2 12 127) D Y (lz_C Y o0 ast ald ahi act acd bo st ld hi ct cd fo) [.ref o0, .int v, .int w, .ref bo] (some (.int k)) (lz_C Y o0 ast ald ahi act acd bo st' ld' hi' ct' cd' fo') 2 12 := by
  obtain ⟨u', r, hm, h⟩ := op_field R v w
  rcases h with ⟨h1, ld', h2, h3⟩ | ⟨h3, (⟨h1, h2⟩ | ⟨h1, h2⟩)⟩
  · exact ⟨u', r, 0, _, _, _, st, ld', hi, ct, cd, vp_updL fo (0 : Int32).toNatClampNeg r.toInt64, hm, h3, h1, fun _ => lz_f0, ct_L_field_ok l D Y o0 ast st ald ld ahi hi act ct acd cd v w bo fo (ld', r) h2 hl0⟩
  · exact ⟨u', r, 1, _, _, _, st, ld, hi, ct, cd, fo, hm, h3, h1, fun h => absurd h (by decide), ct_L_field_ex13 l D Y o0 ast st ald ld ahi hi act ct acd cd v w bo fo h2 hl0⟩
  · exact ⟨u', r, 2, _, _, _, st, ld, hi, ct, cd, fo, hm, h3, h1, fun h => absurd h (by decide), ct_L_field_ex15 l D Y o0 ast st ald ld ahi hi act ct acd cd v w bo fo h2 hl0⟩
theorem lz_u_load (R : Rel n bb d st ld hi ct cd u) (hl0 : l.stackTraces = false) (v : Int32) : ∃ (u' : MdlS) (r : Int32) (k : Int32) (n' bb' d' : Nat) (st' : SetS) (ld' : LodS) (hi' : HisS) (ct' cd' : CatS) (fo' : Nat → Int64), m_X7_load u v = some (u', r) ∧ Rel n' bb' d' st' ld' hi' ct' cd' u' ∧ m_X7_thrown u' = k ∧ (k = 0 → fo' 0 = r.toInt64) ∧ cq_ML l yL_load wsL_load (cq_rx 8 2 12 125) D Y (lz_C Y o0 ast ald ahi act acd bo st ld hi ct cd fo) [.ref o0, .int v, .ref bo] (some (.int k)) (lz_C Y o0 ast ald ahi act acd bo st' ld' hi' ct' cd' fo') 2 12 := by
  obtain ⟨u', r, hm, h⟩ := op_load R v
  rcases h with ⟨h1, ld', hi', ct', h2, h3⟩ | ⟨h3, (⟨h1, h2⟩ | ⟨h1, h2⟩)⟩
  · exact ⟨u', r, 0, _, _, _, st, ld', hi', ct', cd, vp_updL fo (0 : Int32).toNatClampNeg r.toInt64, hm, h3, h1, fun _ => lz_f0, ct_L_load_ok l D Y o0 ast st ald ld ahi hi act ct acd cd v bo fo ((ld', hi', ct'), r) h2 hl0⟩
  · exact ⟨u', r, 1, _, _, _, st, ld, hi, ct, cd, fo, hm, h3, h1, fun h => absurd h (by decide), ct_L_load_ex13 l D Y o0 ast st ald ld ahi hi act ct acd cd v bo fo h2 hl0⟩
  · exact ⟨u', r, 2, _, _, _, st, ld, hi, ct, cd, fo, hm, h3, h1, fun h => absurd h (by decide), ct_L_load_ex17 l D Y o0 ast st ald ld ahi hi act ct acd cd v bo fo h2 hl0⟩
theorem lz_u_protect (R : Rel n bb d st ld hi ct cd u) (hl0 : l.stackTraces = false) (v w z : Int32) : ∃ (u' : MdlS) (r : Int32) (k : Int32) (n' bb' d' : Nat) (st' : SetS) (ld' : LodS) (hi' : HisS) (ct' cd' : CatS) (fo' : Nat → Int64), m_X7_protect u v w z = some (u', r) ∧ Rel n' bb' d' st' ld' hi' ct' cd' u' ∧ m_X7_thrown u' = k ∧ (k = 0 → fo' 0 = if r = 0 then 0 else 1) ∧ cq_ML l yL_protect wsL_protect (cq_rx 8 3 18 127) D Y (lz_C Y o0 ast ald ahi act acd bo st ld hi ct cd fo) [.ref o0, .int v, .int w, .int z, .ref bo] (some (.int k)) (lz_C Y o0 ast ald ahi act acd bo st' ld' hi' ct' cd' fo') 3 18 := by
  obtain ⟨u', r, hm, h⟩ := op_protect R v w z
  rcases h with ⟨h1, hi', ct', h2, h3⟩ | ⟨h3, (⟨h1, h2⟩ | ⟨h1, h2⟩)⟩
  · by_cases hz : r = 0
    · exact ⟨u', r, 0, _, _, _, st, ld, hi', ct', cd, vp_updL fo (0 : Int32).toNatClampNeg 0, hm, h3, h1, fun _ => by rw [if_pos hz]; exact lz_f0, ct_L_protect_ok0 l D Y o0 ast st ald ld ahi hi act ct acd cd v w z bo fo ((hi', ct'), r) h2 hz hl0⟩
    · exact ⟨u', r, 0, _, _, _, st, ld, hi', ct', cd, vp_updL fo (0 : Int32).toNatClampNeg 1, hm, h3, h1, fun _ => by rw [if_neg hz]; exact lz_f0, ct_L_protect_ok1 l D Y o0 ast st ald ld ahi hi act ct acd cd v w z bo fo ((hi', ct'), r) h2 hz hl0⟩
  · exact ⟨u', r, 1, _, _, _, st, ld, hi, ct, cd, fo, hm, h3, h1, fun h => absurd h (by decide), ct_L_protect_ex13 l D Y o0 ast st ald ld ahi hi act ct acd cd v w z bo fo h2 hl0⟩
  · exact ⟨u', r, 2, _, _, _, st, ld, hi, ct, cd, fo, hm, h3, h1, fun h => absurd h (by decide), ct_L_protect_ex17 l D Y o0 ast st ald ld ahi hi act ct acd cd v w z bo fo h2 hl0⟩
theorem lz_u_hold (R : Rel n bb d st ld hi ct cd u) (hl0 : l.stackTraces = false) (v : Int32) : ∃ (u' : MdlS) (r : Int32) (k : Int32) (n' bb' d' : Nat) (st' : SetS) (ld' : LodS) (hi' : HisS) (ct' cd' : CatS) (fo' : Nat → Int64), m_X7_hold u v = some (u', r) ∧ Rel n' bb' d' st' ld' hi' ct' cd' u' ∧ m_X7_thrown u' = k ∧ (k = 0 → fo' 0 = r.toInt64) ∧ cq_ML l yL_hold wsL_hold (cq_rx 8 2 12 124) D Y (lz_C Y o0 ast ald ahi act acd bo st ld hi ct cd fo) [.ref o0, .int v, .ref bo] (some (.int k)) (lz_C Y o0 ast ald ahi act acd bo st' ld' hi' ct' cd' fo') 2 12 := by
  obtain ⟨u', r, hm, h⟩ := op_hold R v
  rcases h with ⟨h1, hi', ct', h2, h3⟩ | ⟨h3, (⟨h1, h2⟩ | ⟨h1, h2⟩)⟩
  · exact ⟨u', r, 0, _, _, _, st, ld, hi', ct', cd, vp_updL fo (0 : Int32).toNatClampNeg r.toInt64, hm, h3, h1, fun _ => lz_f0, ct_L_hold_ok l D Y o0 ast st ald ld ahi hi act ct acd cd v bo fo ((hi', ct'), r) h2 hl0⟩
  · exact ⟨u', r, 1, _, _, _, st, ld, hi, ct, cd, fo, hm, h3, h1, fun h => absurd h (by decide), ct_L_hold_ex13 l D Y o0 ast st ald ld ahi hi act ct acd cd v bo fo h2 hl0⟩
  · exact ⟨u', r, 2, _, _, _, st, ld, hi, ct, cd, fo, hm, h3, h1, fun h => absurd h (by decide), ct_L_hold_ex17 l D Y o0 ast st ald ld ahi hi act ct acd cd v bo fo h2 hl0⟩
theorem lz_u_merge (R : Rel n bb d st ld hi ct cd u) (hl0 : l.stackTraces = false) (v w : Int32) : ∃ (u' : MdlS) (r : Int32) (k : Int32) (n' bb' d' : Nat) (st' : SetS) (ld' : LodS) (hi' : HisS) (ct' cd' : CatS) (fo' : Nat → Int64), m_X7_merge u v w = some (u', r) ∧ Rel n' bb' d' st' ld' hi' ct' cd' u' ∧ m_X7_thrown u' = k ∧ (k = 0 → fo' 0 = r.toInt64) ∧ cq_ML l yL_merge wsL_merge (cq_rx 8 3 18 125) D Y (lz_C Y o0 ast ald ahi act acd bo st ld hi ct cd fo) [.ref o0, .int v, .int w, .ref bo] (some (.int k)) (lz_C Y o0 ast ald ahi act acd bo st' ld' hi' ct' cd' fo') 3 18 := by
  obtain ⟨u', r, hm, h⟩ := op_merge R v w
  rcases h with ⟨h1, hi', ct', h2, h3⟩ | ⟨h3, (⟨h1, h2⟩ | ⟨h1, h2⟩ | ⟨h1, h2⟩)⟩
  · exact ⟨u', r, 0, _, _, _, st, ld, hi', ct', cd, vp_updL fo (0 : Int32).toNatClampNeg r.toInt64, hm, h3, h1, fun _ => lz_f0, ct_L_merge_ok l D Y o0 ast st ald ld ahi hi act ct acd cd v w bo fo ((hi', ct'), r) h2 hl0⟩
  · exact ⟨u', r, 1, _, _, _, st, ld, hi, ct, cd, fo, hm, h3, h1, fun h => absurd h (by decide), ct_L_merge_ex13 l D Y o0 ast st ald ld ahi hi act ct acd cd v w bo fo h2 hl0⟩
  · exact ⟨u', r, 2, _, _, _, st, ld, hi, ct, cd, fo, hm, h3, h1, fun h => absurd h (by decide), ct_L_merge_ex15 l D Y o0 ast st ald ld ahi hi act ct acd cd v w bo fo h2 hl0⟩
  · exact ⟨u', r, 3, _, _, _, st, ld, hi, ct, cd, fo, hm, h3, h1, fun h => absurd h (by decide), ct_L_merge_ex17 l D Y o0 ast st ald ld ahi hi act ct acd cd v w bo fo h2 hl0⟩
theorem lz_u_undo (R : Rel n bb d st ld hi ct cd u) (hl0 : l.stackTraces = false) (v w : Int32) (hw : w = 0 ∨ w = 1) : ∃ (u' : MdlS) (r : Int32) (k : Int32) (n' bb' d' : Nat) (st' : SetS) (ld' : LodS) (hi' : HisS) (ct' cd' : CatS) (fo' : Nat → Int64), m_X7_undo u v w = some (u', r) ∧ Rel n' bb' d' st' ld' hi' ct' cd' u' ∧ m_X7_thrown u' = k ∧ (k = 0 → fo' 0 = r.toInt64) ∧ cq_ML l yL_undo wsL_undo (cq_rx 8 2 12 166) D Y (lz_C Y o0 ast ald ahi act acd bo st ld hi ct cd fo) [.ref o0, .int v, .int w, .ref bo] (some (.int k)) (lz_C Y o0 ast ald ahi act acd bo st' ld' hi' ct' cd' fo') 2 12 := by
  obtain ⟨u', r, hm, h⟩ := op_undo R v w hw
  rcases h with ⟨h1, ld', ct', h2, h3⟩ | ⟨h3, (⟨h1, h2⟩ | ⟨h1, h2⟩)⟩
  · exact ⟨u', r, 0, _, _, _, st, ld', hi, ct', cd, vp_updL fo (0 : Int32).toNatClampNeg r.toInt64, hm, h3, h1, fun _ => lz_f0, ct_L_undo_ok l D Y o0 ast st ald ld ahi hi act ct acd cd v w bo fo ((ld', ct'), r) h2 hl0⟩
  · exact ⟨u', r, 1, _, _, _, st, ld, hi, ct, cd, fo, hm, h3, h1, fun h => absurd h (by decide), ct_L_undo_ex13 l D Y o0 ast st ald ld ahi hi act ct acd cd v w bo fo h2 hl0⟩
  · exact ⟨u', r, 2, _, _, _, st, ld, hi, ct, cd, fo, hm, h3, h1, fun h => absurd h (by decide), ct_L_undo_ex17 l D Y o0 ast st ald ld ahi hi act ct acd cd v w bo fo h2 hl0⟩
theorem lz_u_isUndone (R : Rel n bb d st ld hi ct cd u) (hl0 : l.stackTraces = false) (v : Int32) : ∃ (u' : MdlS) (r : Int32) (k : Int32) (n' bb' d' : Nat) (st' : SetS) (ld' : LodS) (hi' : HisS) (ct' cd' : CatS) (fo' : Nat → Int64), m_X7_isUndone u v = some (u', r) ∧ Rel n' bb' d' st' ld' hi' ct' cd' u' ∧ m_X7_thrown u' = k ∧ (k = 0 → fo' 0 = if r = 0 then 0 else 1) ∧ cq_ML l yL_isUndone wsL_isUndone (cq_rx 8 1 6 124) D Y (lz_C Y o0 ast ald ahi act acd bo st ld hi ct cd fo) [.ref o0, .int v, .ref bo] (some (.int k)) (lz_C Y o0 ast ald ahi act acd bo st' ld' hi' ct' cd' fo') 1 6 := by
  obtain ⟨u', r, hm, h3, h⟩ := op_isUndone R v
  rcases h with ⟨h1, h2⟩ | ⟨h1, h2⟩
  · by_cases hz : r = 0
    · exact ⟨u', r, 0, _, _, _, st, ld, hi, ct, cd, vp_updL fo (0 : Int32).toNatClampNeg 0, hm, h3, h1, fun _ => by rw [if_pos hz]; exact lz_f0, ct_L_isUndone_ok0 l D Y o0 ast st ald ld ahi hi act ct acd cd v bo fo r h2 hz hl0⟩
    · exact ⟨u', r, 0, _, _, _, st, ld, hi, ct, cd, vp_updL fo (0 : Int32).toNatClampNeg 1, hm, h3, h1, fun _ => by rw [if_neg hz]; exact lz_f0, ct_L_isUndone_ok1 l D Y o0 ast st ald ld ahi hi act ct acd cd v bo fo r h2 hz hl0⟩
  · exact ⟨u', r, 1, _, _, _, st, ld, hi, ct, cd, fo, hm, h3, h1, fun h => absurd h (by decide), ct_L_isUndone_ex13 l D Y o0 ast st ald ld ahi hi act ct acd cd v bo fo h2 hl0⟩
theorem lz_u_hit (R : Rel n bb d st ld hi ct cd u) (hl0 : l.stackTraces = false) (v : Int32) : ∃ (u' : MdlS) (r : Int32) (k : Int32) (n' bb' d' : Nat) (st' : SetS) (ld' : LodS) (hi' : HisS) (ct' cd' : CatS) (fo' : Nat → Int64), m_X7_hit u v = some (u', r) ∧ Rel n' bb' d' st' ld' hi' ct' cd' u' ∧ m_X7_thrown u' = k ∧ (k = 0 → fo' 0 = r.toInt64) ∧ cq_ML l yL_hit wsL_hit (cq_rx 8 1 6 124) D Y (lz_C Y o0 ast ald ahi act acd bo st ld hi ct cd fo) [.ref o0, .int v, .ref bo] (some (.int k)) (lz_C Y o0 ast ald ahi act acd bo st' ld' hi' ct' cd' fo') 1 6 := by
  obtain ⟨u', r, hm, h3, h⟩ := op_hit R v
  rcases h with ⟨h1, h2⟩ | ⟨h1, h2⟩
  · exact ⟨u', r, 0, _, _, _, st, ld, hi, ct, cd, vp_updL fo (0 : Int32).toNatClampNeg r.toInt64, hm, h3, h1, fun _ => lz_f0, ct_L_hit_ok l D Y o0 ast st ald ld ahi hi act ct acd cd v bo fo r h2 hl0⟩
  · exact ⟨u', r, 1, _, _, _, st, ld, hi, ct, cd, fo, hm, h3, h1, fun h => absurd h (by decide), ct_L_hit_ex13 l D Y o0 ast st ald ld ahi hi act ct acd cd v bo fo h2 hl0⟩
theorem lz_u_keyOf (R : Rel n bb d st ld hi ct cd u) (hl0 : l.stackTraces = false) (v w : Int32) : ∃ (u' : MdlS) (r : Int32) (k : Int32) (n' bb' d' : Nat) (st' : SetS) (ld' : LodS) (hi' : HisS) (ct' cd' : CatS) (fo' : Nat → Int64), m_X7_keyOf u v w = some (u', r) ∧ Rel n' bb' d' st' ld' hi' ct' cd' u' ∧ m_X7_thrown u' = k ∧ (k = 0 → fo' 0 = r.toInt64) ∧ cq_ML l yL_keyOf wsL_keyOf (cq_rx 8 2 12 125) D Y (lz_C Y o0 ast ald ahi act acd bo st ld hi ct cd fo) [.ref o0, .int v, .int w, .ref bo] (some (.int k)) (lz_C Y o0 ast ald ahi act acd bo st' ld' hi' ct' cd' fo') 2 12 := by
  obtain ⟨u', r, hm, h3, h⟩ := op_keyOf R v w
  rcases h with ⟨h1, h2⟩ | ⟨h1, h2⟩
  · exact ⟨u', r, 0, _, _, _, st, ld, hi, ct, cd, vp_updL fo (0 : Int32).toNatClampNeg r.toInt64, hm, h3, h1, fun _ => lz_f0, ct_L_keyOf_ok l D Y o0 ast st ald ld ahi hi act ct acd cd v w bo fo r h2 hl0⟩
  · exact ⟨u', r, 1, _, _, _, st, ld, hi, ct, cd, fo, hm, h3, h1, fun h => absurd h (by decide), ct_L_keyOf_ex13 l D Y o0 ast st ald ld ahi hi act ct acd cd v w bo fo h2 hl0⟩
theorem lz_u_fieldOf (R : Rel n bb d st ld hi ct cd u) (hl0 : l.stackTraces = false) (v w : Int32) : ∃ (u' : MdlS) (r : Int32) (k : Int32) (n' bb' d' : Nat) (st' : SetS) (ld' : LodS) (hi' : HisS) (ct' cd' : CatS) (fo' : Nat → Int64), m_X7_fieldOf u v w = some (u', r) ∧ Rel n' bb' d' st' ld' hi' ct' cd' u' ∧ m_X7_thrown u' = k ∧ (k = 0 → fo' 0 = r.toInt64) ∧ cq_ML l yL_fieldOf wsL_fieldOf (cq_rx 8 2 12 125) D Y (lz_C Y o0 ast ald ahi act acd bo st ld hi ct cd fo) [.ref o0, .int v, .int w, .ref bo] (some (.int k)) (lz_C Y o0 ast ald ahi act acd bo st' ld' hi' ct' cd' fo') 2 12 := by
  obtain ⟨u', r, hm, h3, h⟩ := op_fieldOf R v w
  rcases h with ⟨h1, h2⟩ | ⟨h1, h2⟩
  · exact ⟨u', r, 0, _, _, _, st, ld, hi, ct, cd, vp_updL fo (0 : Int32).toNatClampNeg r.toInt64, hm, h3, h1, fun _ => lz_f0, ct_L_fieldOf_ok l D Y o0 ast st ald ld ahi hi act ct acd cd v w bo fo r h2 hl0⟩
  · exact ⟨u', r, 1, _, _, _, st, ld, hi, ct, cd, fo, hm, h3, h1, fun h => absurd h (by decide), ct_L_fieldOf_ex13 l D Y o0 ast st ald ld ahi hi act ct acd cd v w bo fo h2 hl0⟩
theorem lz_u_sourceOf (R : Rel n bb d st ld hi ct cd u) (hl0 : l.stackTraces = false) (v w : Int32) : ∃ (u' : MdlS) (r : Int32) (k : Int32) (n' bb' d' : Nat) (st' : SetS) (ld' : LodS) (hi' : HisS) (ct' cd' : CatS) (fo' : Nat → Int64), m_X7_sourceOf u v w = some (u', r) ∧ Rel n' bb' d' st' ld' hi' ct' cd' u' ∧ m_X7_thrown u' = k ∧ (k = 0 → fo' 0 = r.toInt64) ∧ cq_ML l yL_sourceOf wsL_sourceOf (cq_rx 8 2 12 125) D Y (lz_C Y o0 ast ald ahi act acd bo st ld hi ct cd fo) [.ref o0, .int v, .int w, .ref bo] (some (.int k)) (lz_C Y o0 ast ald ahi act acd bo st' ld' hi' ct' cd' fo') 2 12 := by
  obtain ⟨u', r, hm, h3, h⟩ := op_sourceOf R v w
  rcases h with ⟨h1, h2⟩ | ⟨h1, h2⟩
  · exact ⟨u', r, 0, _, _, _, st, ld, hi, ct, cd, vp_updL fo (0 : Int32).toNatClampNeg r.toInt64, hm, h3, h1, fun _ => lz_f0, ct_L_sourceOf_ok l D Y o0 ast st ald ld ahi hi act ct acd cd v w bo fo r h2 hl0⟩
  · exact ⟨u', r, 1, _, _, _, st, ld, hi, ct, cd, fo, hm, h3, h1, fun h => absurd h (by decide), ct_L_sourceOf_ex13 l D Y o0 ast st ald ld ahi hi act ct acd cd v w bo fo h2 hl0⟩
theorem lz_u_holdings (R : Rel n bb d st ld hi ct cd u) (hl0 : l.stackTraces = false) (v : Int32) : ∃ (u' : MdlS) (r : Int32) (k : Int32) (n' bb' d' : Nat) (st' : SetS) (ld' : LodS) (hi' : HisS) (ct' cd' : CatS) (fo' : Nat → Int64), m_X7_holdings u v = some (u', r) ∧ Rel n' bb' d' st' ld' hi' ct' cd' u' ∧ m_X7_thrown u' = k ∧ (k = 0 → fo' 0 = r.toInt64) ∧ cq_ML l yL_holdings wsL_holdings (cq_rx 8 1 6 124) D Y (lz_C Y o0 ast ald ahi act acd bo st ld hi ct cd fo) [.ref o0, .int v, .ref bo] (some (.int k)) (lz_C Y o0 ast ald ahi act acd bo st' ld' hi' ct' cd' fo') 1 6 := by
  obtain ⟨u', r, hm, h3, h⟩ := op_holdings R v
  rcases h with ⟨h1, h2⟩ | ⟨h1, h2⟩
  · exact ⟨u', r, 0, _, _, _, st, ld, hi, ct, cd, vp_updL fo (0 : Int32).toNatClampNeg r.toInt64, hm, h3, h1, fun _ => lz_f0, ct_L_holdings_ok l D Y o0 ast st ald ld ahi hi act ct acd cd v bo fo r h2 hl0⟩
  · exact ⟨u', r, 1, _, _, _, st, ld, hi, ct, cd, fo, hm, h3, h1, fun h => absurd h (by decide), ct_L_holdings_ex13 l D Y o0 ast st ald ld ahi hi act ct acd cd v bo fo h2 hl0⟩
end UN
