/-! THE STARTING STATE: what both sides hold behind their constructors -/
def LM4 : List (List Int32) := [[0, 0, 0, 0, 0, 0, 0, 0, 44, 0, 0, 0, 0, 0, 0, 0, 0, 0, 0, 0, 0, 0, 0, 0, 0, 0, 0, 0, 0, 0, 0, 0, 0, 0], [], [], [], mA33, [], bl0, [], [], [], [], mA345, [], [], mA385, mA645, [], [], [], []]
def gM4 : Mem := (fun k => pl (LM4.getD k []), fun _ => none)
def seen (q : Int32 × Mem) : Int32 × List Int32 × List Int32 := (q.1, (List.range 5).map (fun j => q.2.1 7 j), (List.range 4).map (fun j => q.2.1 8 j))
set_option maxRecDepth 1000000 in
set_option maxHeartbeats 4000000 in
theorem ev3 : (X6_text 6000 gM0).map seen = some (0, [0, 1, 100002, 18, 100003], [0, 1, 4, 5]) := by decide +kernel
