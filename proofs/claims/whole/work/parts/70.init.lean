/-! THE START -/
def st_x : Option (Nat × jz_H) := je_new 0 0 600000 7302250 8 0 jz_blX8 273 3881 MX8_init jg_nil [] ([], fun _ _ => 0)
def st_m (h : jz_H) : Option (Nat × jz_H) := je_new 0 0 600000 7302250 9 0 jz_blX9 28 1872 MX9_init jg_nil [] h
def st_cells : List (Nat × Nat × Int32) := [(18, 0, 0), (18, 1, 0), (18, 2, 0), (21, 1, 0), (21, 2, 0), (31, 1, 0), (31, 2, 0), (43, 1, 0), (43, 2, 0), (1, 1, 0), (0, 8, -1), (0, 9, 0), (240, 4, 0), (245, 2, 0), (45, 1, 0), (45, 2, 0), (248, 2, 0), (261, 2, 0), (6, 1, 0), (15, 0, 0), (15, 1, 0), (15, 2, 0), (15, 3, 0), (15, 4, 0), (15, 5, 0), (15, 6, 0), (16, 1, 0), (16, 2, 0), (274, 0, 0), (274, 2, 0), (274, 6, 0), (283, 51, 0), (283, 52, 0), (283, 53, 0), (274, 15, 0), (274, 16, -1), (274, 13, 0), (274, 35, 0), (274, 40, 0), (274, 32, 0), (302, 0, 0), (302, 1, 0)]
def chk0 : Bool := match st_x with
  | some (a, h) => (match st_m h with
    | some (b, g) => decide (a = 0) && (decide (b = 274) && (decide (g.1 = SG) && st_cells.all (fun c => decide (g.2 c.1 c.2.1 = c.2.2))))
    | none => false)
  | none => false
theorem chk0_ok : chk0 = true := by decide +kernel
