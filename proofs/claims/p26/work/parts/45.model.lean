theorem mI_at {h : xM} {a : Nat} {i j v : Int} (H : mI h a j = v) (e : i = j) : mI h a i = v := by rw [e]; exact H
