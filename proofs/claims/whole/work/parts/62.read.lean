/-! the reference reads an order -/
def rS (w : kG) (F : Nat → Int32) (q wr : Int32) : kG := rset (rset w 8 F) 0 (upd (upd (w 0) 6 q) 7 wr)
def rdT (w : kG) (F : Nat → Int32) (q wr : Int32) : Int32 × Int32 × Int32 × (Nat → Int32) := (fun (g : Int32 × Int32 × Int32) => ((w 0 5) + 1, g.2.1, g.2.2, upd F (((4 * (w 0 5)) + 3)).toNatClampNeg g.1)) (mX6_number (rS w F q wr))
def rdE (w : kG) (F : Nat → Int32) (q wr : Int32) : Int32 × Int32 × Int32 × (Nat → Int32) := if mX6_letter (rS w F q wr) = 61 then (fun (x : Int32 × Int32) => rdT w F x.1 x.2) (mX6_wants (rS w F q wr) 1) else (fun (x : Int32 × Int32) => rdT w F x.1 x.2) (mX6_wants (rS w F q wr) 0)
def rdSw (w : kG) (F : Nat → Int32) (q wr : Int32) : Int32 × Int32 × Int32 × (Nat → Int32) := (fun (g : Int32 × Int32 × Int32) => rdE w (upd F (((4 * (w 0 5)) + 2)).toNatClampNeg g.1) g.2.1 g.2.2) (mX6_number (rS w F q wr))
def rdSr (w : kG) (F : Nat → Int32) (q wr : Int32) : Int32 × Int32 × Int32 × (Nat → Int32) := (fun (g : Int32 × Int32 × Int32) => ((w 0 5) + 1, g.2.1, g.2.2, upd F (((4 * (w 0 5)) + 2)).toNatClampNeg g.1)) (mX6_number (rS w F q wr))
def rdDw (w : kG) (F : Nat → Int32) (q wr : Int32) : Int32 × Int32 × Int32 × (Nat → Int32) := if mX6_letter (rS w F q wr) = 46 then (fun (x : Int32 × Int32) => rdSw w F x.1 x.2) (mX6_wants (rS w F q wr) 1) else (fun (x : Int32 × Int32) => rdSw w F x.1 x.2) (mX6_wants (rS w F q wr) 0)
def rdDr (w : kG) (F : Nat → Int32) (q wr : Int32) : Int32 × Int32 × Int32 × (Nat → Int32) := if mX6_letter (rS w F q wr) = 46 then (fun (x : Int32 × Int32) => rdSr w F x.1 x.2) (mX6_wants (rS w F q wr) 1) else (fun (x : Int32 × Int32) => rdSr w F x.1 x.2) (mX6_wants (rS w F q wr) 0)
def rdNw (w : kG) (F : Nat → Int32) (q wr : Int32) : Int32 × Int32 × Int32 × (Nat → Int32) := (fun (g : Int32 × Int32 × Int32) => rdDw w (upd F (((4 * (w 0 5)) + 1)).toNatClampNeg g.1) g.2.1 g.2.2) (mX6_number (rS w F q wr))
def rdNr (w : kG) (F : Nat → Int32) (q wr : Int32) : Int32 × Int32 × Int32 × (Nat → Int32) := (fun (g : Int32 × Int32 × Int32) => rdDr w (upd F (((4 * (w 0 5)) + 1)).toNatClampNeg g.1) g.2.1 g.2.2) (mX6_number (rS w F q wr))
def rdN1 (w : kG) (F : Nat → Int32) (q wr : Int32) : Int32 × Int32 × Int32 × (Nat → Int32) := (fun (g : Int32 × Int32 × Int32) => ((w 0 5) + 1, g.2.1, g.2.2, upd F (((4 * (w 0 5)) + 1)).toNatClampNeg g.1)) (mX6_number (rS w F q wr))
def rF0 (w : kG) : Nat → Int32 := upd (w 8) ((4 * (w 0 5))).toNatClampNeg (mX6_letter w)
theorem readOrder_d {w : kG} : mX6_readOrder w = (
  if mX6_letter w = 119 then (fun (x : Int32 × Int32) => rdNw w (rF0 w) x.1 x.2) (mX6_wants w 1)
  else if mX6_letter w = 114 then (fun (x : Int32 × Int32) => rdNr w (rF0 w) x.1 x.2) (mX6_wants w 1)
  else if mX6_letter w = 99 then (fun (x : Int32 × Int32) => rdN1 w (rF0 w) x.1 x.2) (mX6_wants w 1)
  else if mX6_letter w = 120 then (fun (x : Int32 × Int32) => rdN1 w (rF0 w) x.1 x.2) (mX6_wants w 1)
  else if mX6_letter w = 98 then (fun (x : Int32 × Int32) => ((w 0 5) + 1, x.1, x.2, upd (rF0 w) (((4 * (w 0 5)) + 1)).toNatClampNeg 0)) (mX6_wants w 1)
  else (fun (x : Int32 × Int32) => ((w 0 5) + 1, x.1, x.2, upd (rF0 w) (((4 * (w 0 5)) + 1)).toNatClampNeg 0)) (mX6_wants w 0)) := by
  rw [mX6_readOrder_s]
  unfold rdNw rdNr rdN1 rdDw rdDr rdSw rdSr rdE rdT rS rF0
  rfl
