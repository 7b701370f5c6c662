/-! ===== the own line as it is made ===== -/
/-- the cells that a new own line has, behind itself -/
def hI29 : List gC := [.inl (0, [8]), .inl (0, [1]), .inl (0, [2, 2, 2, 2]), .inl (0, [0]), .inl (0, [2, 5, 4, 1, 3, 2, 8]), .inl (0, [0, 0, 0, 0, 0, 0, 0, 0, 0, 0, 0]),
  .inr (.inl (4, [some 2009, some 2010])), .inl (0, []), .inl (0, []), .inr (.inl (4, [some 2012, some 2013])), .inl (0, []), .inl (0, []), .inr (.inl (4, [some 2015, some 2016])), .inl (0, []), .inl (0, []), .inr (.inl (4, [some 2018, some 2019])), .inl (0, []), .inl (0, []),
  .inl (0, [0, 0]), .inl (0, [0, 0]), .inl (0, [0, 0]), .inl (0, [0, 0]), .inl (3, [0, 0]), .inl (3, [0, 0]), .inr (.inl (5, [some 2027, some 2028])), .inr (.inl (4, [])), .inr (.inl (4, [])), .inr (.inl (4, List.replicate 200 none)), .inr (.inl (4, List.replicate 60 none))]
def hZ6 : gC := .inl (0, [0, 0, 0, 0, 0, 0])
/-- its fields -/
def fI (q : Int) (a b c d e : Nat) : List xV := [.inl 0, .inl 0, .inl q, .inl 0, .inl 0, .inl 0, .inl 0, .inl 0, .inl 0, .inl 0, .inl 0, .inl 0, .inr (.inr (some a)), .inr (.inr (some b)), .inr (.inr (some c)), .inr (.inr (some d)), .inr (.inr (some e)), .inr (.inr (some 2007)), .inr (.inr (some 2008)), .inr (.inr (some 2011)), .inr (.inr (some 2014)), .inr (.inr (some 2017)), .inr (.inr (some 2020)), .inr (.inr (some 2021)), .inr (.inr (some 2022)), .inr (.inr (some 2023)), .inr (.inr (some 2024)), .inr (.inr (some 2025)), .inr (.inr (some 2026)), .inr (.inr (some 2029)), .inr (.inr (some 2030))]
def HL (fs : List xV) (cs : List gC) : gH := hZ6 :: .inr (.inr fs) :: (hI29 ++ cs)
set_option maxRecDepth 1000000 in
set_option maxHeartbeats 4000000 in
theorem O_init : f_O_init 2001 [hZ6, .inr (.inr gO0)] = some (HL (fI 9 2002 2003 2004 2005 2006) []) := by rfl
