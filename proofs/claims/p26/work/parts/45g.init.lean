theorem cq_at {w0 w : va_W} {H : Heap} {A : Nat → Prop} {D : va_G} {G : Prop} (hP : va_P D vwCl w0 H) (hD : va_D A w0) (e : w0 = w) (k : va_P D vwCl w H → va_D A w → G) : G := by
  subst e
  exact k hP hD
def i_X7a : MdlS := (upd (upd (upd (upd (upd (fun _ => 0) (0 : Int32).toNatClampNeg 0) (1 : Int32).toNatClampNeg 1) (2 : Int32).toNatClampNeg 2) (3 : Int32).toNatClampNeg 3) (4 : Int32).toNatClampNeg 4, upd (upd (upd (upd (fun _ => 0) (0 : Int32).toNatClampNeg 1) (1 : Int32).toNatClampNeg 1) (2 : Int32).toNatClampNeg 1) (3 : Int32).toNatClampNeg 1, upd (upd (upd (fun _ => 0) (0 : Int32).toNatClampNeg 0) (1 : Int32).toNatClampNeg 1) (2 : Int32).toNatClampNeg 2, fun _ => 0, fun _ => 0, 0, fun _ => 0, 0, fun _ => 0, fun _ => 0, fun _ => 0, fun _ => 0, fun _ => 0, 0, 0, fun _ => 0, fun _ => 0, fun _ => 0, fun _ => 0, fun _ => 0, fun _ => 0, fun _ => 0, fun _ => 0, fun _ => 0, 0)
def i_X7 : MdlS := (m_X7_emptyDraft i_X7a).getD i_X7a
theorem i_X7_some : (m_X7_emptyDraft i_X7a).isSome = true := by decide +kernel
theorem i_X7_eq : m_X7_emptyDraft i_X7a = some i_X7 := by
  unfold i_X7
  cases h : m_X7_emptyDraft i_X7a with
  | none => have h2 := i_X7_some; rw [h] at h2; exact absurd h2 (by decide)
  | some v => rfl
