def cw (cI cJ cG cZ : ClassId) (a : Nat → Nat) (fi : Nat → Int32) (fl : Nat → Int64) (ai : Nat → Nat → Int32) (al : Nat → Nat → Int64) : va_W := [
  (a 0, .inr (0, [.ref (a 19), .ref (a 1), .ref (a 4), .ref (a 12), .ref (a 40), .ref (a 58), .ref (a 17), .ref (a 18), .int (fi 0)])),
  (a 1, .inr (1, [.ref (a 2), .ref (a 3), .int (fi 1)])),
  (a 2, .inl (cI, 8, .inl (ai 2))),
  (a 3, .inl (cI, 8, .inl (ai 3))),
  (a 4, .inr (3, [.ref (a 5), .ref (a 6), .ref (a 7), .ref (a 8), .ref (a 9), .ref (a 10), .ref (a 11), .int (fi 2), .int (fi 3), .int (fi 4), .int (fi 5)])),
  (a 5, .inl (cI, 12, .inl (ai 5))),
  (a 6, .inl (cI, 40, .inl (ai 6))),
  (a 7, .inl (cI, 40, .inl (ai 7))),
  (a 8, .inl (cI, 40, .inl (ai 8))),
  (a 9, .inl (cI, 40, .inl (ai 9))),
  (a 10, .inl (cI, 6, .inl (ai 10))),
  (a 11, .inl (cI, 6, .inl (ai 11))),
  (a 12, .inr (4, [.ref (a 13), .ref (a 14), .ref (a 15), .ref (a 16), .int (fi 6)])),
  (a 13, .inl (cI, 8, .inl (ai 13))),
  (a 14, .inl (cI, 8, .inl (ai 14))),
  (a 15, .inl (cI, 8, .inl (ai 15))),
  (a 16, .inl (cI, 8, .inl (ai 16))),
  (a 17, .inl (cJ, 6, .inr (.inl (al 17)))),
  (a 18, .inl (cJ, 6, .inr (.inl (al 18)))),
  (a 19, .inr (2, [.int (fi 7), .ref (a 20), .ref (a 21), .ref (a 22), .ref (a 31), .ref (a 35), .ref (a 39)])),
  (a 20, .inl (cI, 6, .inl (ai 20))),
  (a 21, .inl (cI, 6, .inl (ai 21))),
  (a 22, .inl (cG, 8, .inr (.inr (.inr (.inr (fun i => if i < 8 then some (a (23 + i)) else none)))))),
  (a 23, .inl (cI, 36, .inl (ai 23))),
  (a 24, .inl (cI, 36, .inl (ai 24))),
  (a 25, .inl (cI, 36, .inl (ai 25))),
  (a 26, .inl (cI, 36, .inl (ai 26))),
  (a 27, .inl (cI, 36, .inl (ai 27))),
  (a 28, .inl (cI, 36, .inl (ai 28))),
  (a 29, .inl (cI, 36, .inl (ai 29))),
  (a 30, .inl (cI, 36, .inl (ai 30))),
  (a 31, .inl (cG, 3, .inr (.inr (.inr (.inr (fun i => if i < 3 then some (a (32 + i)) else none)))))),
  (a 32, .inl (cI, 6, .inl (ai 32))),
  (a 33, .inl (cI, 6, .inl (ai 33))),
  (a 34, .inl (cI, 6, .inl (ai 34))),
  (a 35, .inl (cG, 3, .inr (.inr (.inr (.inr (fun i => if i < 3 then some (a (36 + i)) else none)))))),
  (a 36, .inl (cI, 6, .inl (ai 36))),
  (a 37, .inl (cI, 6, .inl (ai 37))),
  (a 38, .inl (cI, 6, .inl (ai 38))),
  (a 39, .inl (cI, 6, .inl (ai 39))),
  (a 40, .inr (6, [.ref (a 19), .ref (a 1), .ref (a 4), .ref (a 41), .ref (a 42), .ref (a 43), .ref (a 44), .ref (a 45), .int (fi 8), .int (fi 9), .int (fi 10)])),
  (a 41, .inl (cJ, 6, .inr (.inl (al 41)))),
  (a 42, .inl (cJ, 3, .inr (.inl (al 42)))),
  (a 43, .inl (cI, 6, .inl (ai 43))),
  (a 44, .inl (cI, 12, .inl (ai 44))),
  (a 45, .inl (cG, 12, .inr (.inr (.inr (.inr (fun i => if i < 12 then some (a (46 + i)) else none)))))),
  (a 46, .inl (cI, 12, .inl (ai 46))),
  (a 47, .inl (cI, 12, .inl (ai 47))),
  (a 48, .inl (cI, 12, .inl (ai 48))),
  (a 49, .inl (cI, 12, .inl (ai 49))),
  (a 50, .inl (cI, 12, .inl (ai 50))),
  (a 51, .inl (cI, 12, .inl (ai 51))),
  (a 52, .inl (cI, 12, .inl (ai 52))),
  (a 53, .inl (cI, 12, .inl (ai 53))),
  (a 54, .inl (cI, 12, .inl (ai 54))),
  (a 55, .inl (cI, 12, .inl (ai 55))),
  (a 56, .inl (cI, 12, .inl (ai 56))),
  (a 57, .inl (cI, 12, .inl (ai 57))),
  (a 58, .inr (5, [.ref (a 19), .ref (a 4), .ref (a 40), .ref (a 59), .ref (a 60), .int (fi 11), .long (fl 0)])),
  (a 59, .inl (cI, 6, .inl (ai 59))),
  (a 60, .inl (cI, 6, .inl (ai 60)))]
theorem cwpfi_0 {D : va_G} {cI cJ cG cZ : ClassId} {a : Nat → Nat} {fi : Nat → Int32} {fl : Nat → Int64} {ai : Nat → Nat → Int32} {al : Nat → Nat → Int64} {v : Int32} {H : Heap} (h : va_P D vwCl ((cw cI cJ cG cZ a fi fl ai al).set 0 (a 0, .inr (0, ([.ref (a 19), .ref (a 1), .ref (a 4), .ref (a 12), .ref (a 40), .ref (a 58), .ref (a 17), .ref (a 18), .int (fi 0)] : List Value).set 8 (.int v)))) H) : va_P D vwCl (cw cI cJ cG cZ a (va_up fi 0 v) fl ai al) H := h
theorem cwdfi_0 {cI cJ cG cZ : ClassId} {a : Nat → Nat} {fi : Nat → Int32} {fl : Nat → Int64} {ai : Nat → Nat → Int32} {al : Nat → Nat → Int64} {v : Int32} {A : Nat → Prop} (h : va_D A ((cw cI cJ cG cZ a fi fl ai al).set 0 (a 0, .inr (0, ([.ref (a 19), .ref (a 1), .ref (a 4), .ref (a 12), .ref (a 40), .ref (a 58), .ref (a 17), .ref (a 18), .int (fi 0)] : List Value).set 8 (.int v))))) : va_D A (cw cI cJ cG cZ a (va_up fi 0 v) fl ai al) := h
theorem cwpfi_1 {D : va_G} {cI cJ cG cZ : ClassId} {a : Nat → Nat} {fi : Nat → Int32} {fl : Nat → Int64} {ai : Nat → Nat → Int32} {al : Nat → Nat → Int64} {v : Int32} {H : Heap} (h : va_P D vwCl ((cw cI cJ cG cZ a fi fl ai al).set 1 (a 1, .inr (1, ([.ref (a 2), .ref (a 3), .int (fi 1)] : List Value).set 2 (.int v)))) H) : va_P D vwCl (cw cI cJ cG cZ a (va_up fi 1 v) fl ai al) H := h
theorem cwdfi_1 {cI cJ cG cZ : ClassId} {a : Nat → Nat} {fi : Nat → Int32} {fl : Nat → Int64} {ai : Nat → Nat → Int32} {al : Nat → Nat → Int64} {v : Int32} {A : Nat → Prop} (h : va_D A ((cw cI cJ cG cZ a fi fl ai al).set 1 (a 1, .inr (1, ([.ref (a 2), .ref (a 3), .int (fi 1)] : List Value).set 2 (.int v))))) : va_D A (cw cI cJ cG cZ a (va_up fi 1 v) fl ai al) := h
theorem cwpai_2 {D : va_G} {cI cJ cG cZ : ClassId} {a : Nat → Nat} {fi : Nat → Int32} {fl : Nat → Int64} {ai : Nat → Nat → Int32} {al : Nat → Nat → Int64} {F : Nat → Int32} {H : Heap} (h : va_P D vwCl ((cw cI cJ cG cZ a fi fl ai al).set 2 (a 2, .inl (cI, 8, .inl F))) H) : va_P D vwCl (cw cI cJ cG cZ a fi fl (va_up ai 2 F) al) H := h
theorem cwdai_2 {cI cJ cG cZ : ClassId} {a : Nat → Nat} {fi : Nat → Int32} {fl : Nat → Int64} {ai : Nat → Nat → Int32} {al : Nat → Nat → Int64} {F : Nat → Int32} {A : Nat → Prop} (h : va_D A ((cw cI cJ cG cZ a fi fl ai al).set 2 (a 2, .inl (cI, 8, .inl F)))) : va_D A (cw cI cJ cG cZ a fi fl (va_up ai 2 F) al) := h
theorem cwpai_3 {D : va_G} {cI cJ cG cZ : ClassId} {a : Nat → Nat} {fi : Nat → Int32} {fl : Nat → Int64} {ai : Nat → Nat → Int32} {al : Nat → Nat → Int64} {F : Nat → Int32} {H : Heap} (h : va_P D vwCl ((cw cI cJ cG cZ a fi fl ai al).set 3 (a 3, .inl (cI, 8, .inl F))) H) : va_P D vwCl (cw cI cJ cG cZ a fi fl (va_up ai 3 F) al) H := h
theorem cwdai_3 {cI cJ cG cZ : ClassId} {a : Nat → Nat} {fi : Nat → Int32} {fl : Nat → Int64} {ai : Nat → Nat → Int32} {al : Nat → Nat → Int64} {F : Nat → Int32} {A : Nat → Prop} (h : va_D A ((cw cI cJ cG cZ a fi fl ai al).set 3 (a 3, .inl (cI, 8, .inl F)))) : va_D A (cw cI cJ cG cZ a fi fl (va_up ai 3 F) al) := h
theorem cwpfi_2 {D : va_G} {cI cJ cG cZ : ClassId} {a : Nat → Nat} {fi : Nat → Int32} {fl : Nat → Int64} {ai : Nat → Nat → Int32} {al : Nat → Nat → Int64} {v : Int32} {H : Heap} (h : va_P D vwCl ((cw cI cJ cG cZ a fi fl ai al).set 4 (a 4, .inr (3, ([.ref (a 5), .ref (a 6), .ref (a 7), .ref (a 8), .ref (a 9), .ref (a 10), .ref (a 11), .int (fi 2), .int (fi 3), .int (fi 4), .int (fi 5)] : List Value).set 7 (.int v)))) H) : va_P D vwCl (cw cI cJ cG cZ a (va_up fi 2 v) fl ai al) H := h
theorem cwdfi_2 {cI cJ cG cZ : ClassId} {a : Nat → Nat} {fi : Nat → Int32} {fl : Nat → Int64} {ai : Nat → Nat → Int32} {al : Nat → Nat → Int64} {v : Int32} {A : Nat → Prop} (h : va_D A ((cw cI cJ cG cZ a fi fl ai al).set 4 (a 4, .inr (3, ([.ref (a 5), .ref (a 6), .ref (a 7), .ref (a 8), .ref (a 9), .ref (a 10), .ref (a 11), .int (fi 2), .int (fi 3), .int (fi 4), .int (fi 5)] : List Value).set 7 (.int v))))) : va_D A (cw cI cJ cG cZ a (va_up fi 2 v) fl ai al) := h
theorem cwpfi_3 {D : va_G} {cI cJ cG cZ : ClassId} {a : Nat → Nat} {fi : Nat → Int32} {fl : Nat → Int64} {ai : Nat → Nat → Int32} {al : Nat → Nat → Int64} {v : Int32} {H : Heap} (h : va_P D vwCl ((cw cI cJ cG cZ a fi fl ai al).set 4 (a 4, .inr (3, ([.ref (a 5), .ref (a 6), .ref (a 7), .ref (a 8), .ref (a 9), .ref (a 10), .ref (a 11), .int (fi 2), .int (fi 3), .int (fi 4), .int (fi 5)] : List Value).set 8 (.int v)))) H) : va_P D vwCl (cw cI cJ cG cZ a (va_up fi 3 v) fl ai al) H := h
theorem cwdfi_3 {cI cJ cG cZ : ClassId} {a : Nat → Nat} {fi : Nat → Int32} {fl : Nat → Int64} {ai : Nat → Nat → Int32} {al : Nat → Nat → Int64} {v : Int32} {A : Nat → Prop} (h : va_D A ((cw cI cJ cG cZ a fi fl ai al).set 4 (a 4, .inr (3, ([.ref (a 5), .ref (a 6), .ref (a 7), .ref (a 8), .ref (a 9), .ref (a 10), .ref (a 11), .int (fi 2), .int (fi 3), .int (fi 4), .int (fi 5)] : List Value).set 8 (.int v))))) : va_D A (cw cI cJ cG cZ a (va_up fi 3 v) fl ai al) := h
theorem cwpfi_4 {D : va_G} {cI cJ cG cZ : ClassId} {a : Nat → Nat} {fi : Nat → Int32} {fl : Nat → Int64} {ai : Nat → Nat → Int32} {al : Nat → Nat → Int64} {v : Int32} {H : Heap} (h : va_P D vwCl ((cw cI cJ cG cZ a fi fl ai al).set 4 (a 4, .inr (3, ([.ref (a 5), .ref (a 6), .ref (a 7), .ref (a 8), .ref (a 9), .ref (a 10), .ref (a 11), .int (fi 2), .int (fi 3), .int (fi 4), .int (fi 5)] : List Value).set 9 (.int v)))) H) : va_P D vwCl (cw cI cJ cG cZ a (va_up fi 4 v) fl ai al) H := h
theorem cwdfi_4 {cI cJ cG cZ : ClassId} {a : Nat → Nat} {fi : Nat → Int32} {fl : Nat → Int64} {ai : Nat → Nat → Int32} {al : Nat → Nat → Int64} {v : Int32} {A : Nat → Prop} (h : va_D A ((cw cI cJ cG cZ a fi fl ai al).set 4 (a 4, .inr (3, ([.ref (a 5), .ref (a 6), .ref (a 7), .ref (a 8), .ref (a 9), .ref (a 10), .ref (a 11), .int (fi 2), .int (fi 3), .int (fi 4), .int (fi 5)] : List Value).set 9 (.int v))))) : va_D A (cw cI cJ cG cZ a (va_up fi 4 v) fl ai al) := h
theorem cwpfi_5 {D : va_G} {cI cJ cG cZ : ClassId} {a : Nat → Nat} {fi : Nat → Int32} {fl : Nat → Int64} {ai : Nat → Nat → Int32} {al : Nat → Nat → Int64} {v : Int32} {H : Heap} (h : va_P D vwCl ((cw cI cJ cG cZ a fi fl ai al).set 4 (a 4, .inr (3, ([.ref (a 5), .ref (a 6), .ref (a 7), .ref (a 8), .ref (a 9), .ref (a 10), .ref (a 11), .int (fi 2), .int (fi 3), .int (fi 4), .int (fi 5)] : List Value).set 10 (.int v)))) H) : va_P D vwCl (cw cI cJ cG cZ a (va_up fi 5 v) fl ai al) H := h
theorem cwdfi_5 {cI cJ cG cZ : ClassId} {a : Nat → Nat} {fi : Nat → Int32} {fl : Nat → Int64} {ai : Nat → Nat → Int32} {al : Nat → Nat → Int64} {v : Int32} {A : Nat → Prop} (h : va_D A ((cw cI cJ cG cZ a fi fl ai al).set 4 (a 4, .inr (3, ([.ref (a 5), .ref (a 6), .ref (a 7), .ref (a 8), .ref (a 9), .ref (a 10), .ref (a 11), .int (fi 2), .int (fi 3), .int (fi 4), .int (fi 5)] : List Value).set 10 (.int v))))) : va_D A (cw cI cJ cG cZ a (va_up fi 5 v) fl ai al) := h
theorem cwpai_5 {D : va_G} {cI cJ cG cZ : ClassId} {a : Nat → Nat} {fi : Nat → Int32} {fl : Nat → Int64} {ai : Nat → Nat → Int32} {al : Nat → Nat → Int64} {F : Nat → Int32} {H : Heap} (h : va_P D vwCl ((cw cI cJ cG cZ a fi fl ai al).set 5 (a 5, .inl (cI, 12, .inl F))) H) : va_P D vwCl (cw cI cJ cG cZ a fi fl (va_up ai 5 F) al) H := h
theorem cwdai_5 {cI cJ cG cZ : ClassId} {a : Nat → Nat} {fi : Nat → Int32} {fl : Nat → Int64} {ai : Nat → Nat → Int32} {al : Nat → Nat → Int64} {F : Nat → Int32} {A : Nat → Prop} (h : va_D A ((cw cI cJ cG cZ a fi fl ai al).set 5 (a 5, .inl (cI, 12, .inl F)))) : va_D A (cw cI cJ cG cZ a fi fl (va_up ai 5 F) al) := h
theorem cwpai_6 {D : va_G} {cI cJ cG cZ : ClassId} {a : Nat → Nat} {fi : Nat → Int32} {fl : Nat → Int64} {ai : Nat → Nat → Int32} {al : Nat → Nat → Int64} {F : Nat → Int32} {H : Heap} (h : va_P D vwCl ((cw cI cJ cG cZ a fi fl ai al).set 6 (a 6, .inl (cI, 40, .inl F))) H) : va_P D vwCl (cw cI cJ cG cZ a fi fl (va_up ai 6 F) al) H := h
theorem cwdai_6 {cI cJ cG cZ : ClassId} {a : Nat → Nat} {fi : Nat → Int32} {fl : Nat → Int64} {ai : Nat → Nat → Int32} {al : Nat → Nat → Int64} {F : Nat → Int32} {A : Nat → Prop} (h : va_D A ((cw cI cJ cG cZ a fi fl ai al).set 6 (a 6, .inl (cI, 40, .inl F)))) : va_D A (cw cI cJ cG cZ a fi fl (va_up ai 6 F) al) := h
theorem cwpai_7 {D : va_G} {cI cJ cG cZ : ClassId} {a : Nat → Nat} {fi : Nat → Int32} {fl : Nat → Int64} {ai : Nat → Nat → Int32} {al : Nat → Nat → Int64} {F : Nat → Int32} {H : Heap} (h : va_P D vwCl ((cw cI cJ cG cZ a fi fl ai al).set 7 (a 7, .inl (cI, 40, .inl F))) H) : va_P D vwCl (cw cI cJ cG cZ a fi fl (va_up ai 7 F) al) H := h
theorem cwdai_7 {cI cJ cG cZ : ClassId} {a : Nat → Nat} {fi : Nat → Int32} {fl : Nat → Int64} {ai : Nat → Nat → Int32} {al : Nat → Nat → Int64} {F : Nat → Int32} {A : Nat → Prop} (h : va_D A ((cw cI cJ cG cZ a fi fl ai al).set 7 (a 7, .inl (cI, 40, .inl F)))) : va_D A (cw cI cJ cG cZ a fi fl (va_up ai 7 F) al) := h
theorem cwpai_8 {D : va_G} {cI cJ cG cZ : ClassId} {a : Nat → Nat} {fi : Nat → Int32} {fl : Nat → Int64} {ai : Nat → Nat → Int32} {al : Nat → Nat → Int64} {F : Nat → Int32} {H : Heap} (h : va_P D vwCl ((cw cI cJ cG cZ a fi fl ai al).set 8 (a 8, .inl (cI, 40, .inl F))) H) : va_P D vwCl (cw cI cJ cG cZ a fi fl (va_up ai 8 F) al) H := h
theorem cwdai_8 {cI cJ cG cZ : ClassId} {a : Nat → Nat} {fi : Nat → Int32} {fl : Nat → Int64} {ai : Nat → Nat → Int32} {al : Nat → Nat → Int64} {F : Nat → Int32} {A : Nat → Prop} (h : va_D A ((cw cI cJ cG cZ a fi fl ai al).set 8 (a 8, .inl (cI, 40, .inl F)))) : va_D A (cw cI cJ cG cZ a fi fl (va_up ai 8 F) al) := h
theorem cwpai_9 {D : va_G} {cI cJ cG cZ : ClassId} {a : Nat → Nat} {fi : Nat → Int32} {fl : Nat → Int64} {ai : Nat → Nat → Int32} {al : Nat → Nat → Int64} {F : Nat → Int32} {H : Heap} (h : va_P D vwCl ((cw cI cJ cG cZ a fi fl ai al).set 9 (a 9, .inl (cI, 40, .inl F))) H) : va_P D vwCl (cw cI cJ cG cZ a fi fl (va_up ai 9 F) al) H := h
theorem cwdai_9 {cI cJ cG cZ : ClassId} {a : Nat → Nat} {fi : Nat → Int32} {fl : Nat → Int64} {ai : Nat → Nat → Int32} {al : Nat → Nat → Int64} {F : Nat → Int32} {A : Nat → Prop} (h : va_D A ((cw cI cJ cG cZ a fi fl ai al).set 9 (a 9, .inl (cI, 40, .inl F)))) : va_D A (cw cI cJ cG cZ a fi fl (va_up ai 9 F) al) := h
theorem cwpai_10 {D : va_G} {cI cJ cG cZ : ClassId} {a : Nat → Nat} {fi : Nat → Int32} {fl : Nat → Int64} {ai : Nat → Nat → Int32} {al : Nat → Nat → Int64} {F : Nat → Int32} {H : Heap} (h : va_P D vwCl ((cw cI cJ cG cZ a fi fl ai al).set 10 (a 10, .inl (cI, 6, .inl F))) H) : va_P D vwCl (cw cI cJ cG cZ a fi fl (va_up ai 10 F) al) H := h
theorem cwdai_10 {cI cJ cG cZ : ClassId} {a : Nat → Nat} {fi : Nat → Int32} {fl : Nat → Int64} {ai : Nat → Nat → Int32} {al : Nat → Nat → Int64} {F : Nat → Int32} {A : Nat → Prop} (h : va_D A ((cw cI cJ cG cZ a fi fl ai al).set 10 (a 10, .inl (cI, 6, .inl F)))) : va_D A (cw cI cJ cG cZ a fi fl (va_up ai 10 F) al) := h
theorem cwpai_11 {D : va_G} {cI cJ cG cZ : ClassId} {a : Nat → Nat} {fi : Nat → Int32} {fl : Nat → Int64} {ai : Nat → Nat → Int32} {al : Nat → Nat → Int64} {F : Nat → Int32} {H : Heap} (h : va_P D vwCl ((cw cI cJ cG cZ a fi fl ai al).set 11 (a 11, .inl (cI, 6, .inl F))) H) : va_P D vwCl (cw cI cJ cG cZ a fi fl (va_up ai 11 F) al) H := h
theorem cwdai_11 {cI cJ cG cZ : ClassId} {a : Nat → Nat} {fi : Nat → Int32} {fl : Nat → Int64} {ai : Nat → Nat → Int32} {al : Nat → Nat → Int64} {F : Nat → Int32} {A : Nat → Prop} (h : va_D A ((cw cI cJ cG cZ a fi fl ai al).set 11 (a 11, .inl (cI, 6, .inl F)))) : va_D A (cw cI cJ cG cZ a fi fl (va_up ai 11 F) al) := h
theorem cwpfi_6 {D : va_G} {cI cJ cG cZ : ClassId} {a : Nat → Nat} {fi : Nat → Int32} {fl : Nat → Int64} {ai : Nat → Nat → Int32} {al : Nat → Nat → Int64} {v : Int32} {H : Heap} (h : va_P D vwCl ((cw cI cJ cG cZ a fi fl ai al).set 12 (a 12, .inr (4, ([.ref (a 13), .ref (a 14), .ref (a 15), .ref (a 16), .int (fi 6)] : List Value).set 4 (.int v)))) H) : va_P D vwCl (cw cI cJ cG cZ a (va_up fi 6 v) fl ai al) H := h
theorem cwdfi_6 {cI cJ cG cZ : ClassId} {a : Nat → Nat} {fi : Nat → Int32} {fl : Nat → Int64} {ai : Nat → Nat → Int32} {al : Nat → Nat → Int64} {v : Int32} {A : Nat → Prop} (h : va_D A ((cw cI cJ cG cZ a fi fl ai al).set 12 (a 12, .inr (4, ([.ref (a 13), .ref (a 14), .ref (a 15), .ref (a 16), .int (fi 6)] : List Value).set 4 (.int v))))) : va_D A (cw cI cJ cG cZ a (va_up fi 6 v) fl ai al) := h
theorem cwpai_13 {D : va_G} {cI cJ cG cZ : ClassId} {a : Nat → Nat} {fi : Nat → Int32} {fl : Nat → Int64} {ai : Nat → Nat → Int32} {al : Nat → Nat → Int64} {F : Nat → Int32} {H : Heap} (h : va_P D vwCl ((cw cI cJ cG cZ a fi fl ai al).set 13 (a 13, .inl (cI, 8, .inl F))) H) : va_P D vwCl (cw cI cJ cG cZ a fi fl (va_up ai 13 F) al) H := h
theorem cwdai_13 {cI cJ cG cZ : ClassId} {a : Nat → Nat} {fi : Nat → Int32} {fl : Nat → Int64} {ai : Nat → Nat → Int32} {al : Nat → Nat → Int64} {F : Nat → Int32} {A : Nat → Prop} (h : va_D A ((cw cI cJ cG cZ a fi fl ai al).set 13 (a 13, .inl (cI, 8, .inl F)))) : va_D A (cw cI cJ cG cZ a fi fl (va_up ai 13 F) al) := h
theorem cwpai_14 {D : va_G} {cI cJ cG cZ : ClassId} {a : Nat → Nat} {fi : Nat → Int32} {fl : Nat → Int64} {ai : Nat → Nat → Int32} {al : Nat → Nat → Int64} {F : Nat → Int32} {H : Heap} (h : va_P D vwCl ((cw cI cJ cG cZ a fi fl ai al).set 14 (a 14, .inl (cI, 8, .inl F))) H) : va_P D vwCl (cw cI cJ cG cZ a fi fl (va_up ai 14 F) al) H := h
theorem cwdai_14 {cI cJ cG cZ : ClassId} {a : Nat → Nat} {fi : Nat → Int32} {fl : Nat → Int64} {ai : Nat → Nat → Int32} {al : Nat → Nat → Int64} {F : Nat → Int32} {A : Nat → Prop} (h : va_D A ((cw cI cJ cG cZ a fi fl ai al).set 14 (a 14, .inl (cI, 8, .inl F)))) : va_D A (cw cI cJ cG cZ a fi fl (va_up ai 14 F) al) := h
theorem cwpai_15 {D : va_G} {cI cJ cG cZ : ClassId} {a : Nat → Nat} {fi : Nat → Int32} {fl : Nat → Int64} {ai : Nat → Nat → Int32} {al : Nat → Nat → Int64} {F : Nat → Int32} {H : Heap} (h : va_P D vwCl ((cw cI cJ cG cZ a fi fl ai al).set 15 (a 15, .inl (cI, 8, .inl F))) H) : va_P D vwCl (cw cI cJ cG cZ a fi fl (va_up ai 15 F) al) H := h
theorem cwdai_15 {cI cJ cG cZ : ClassId} {a : Nat → Nat} {fi : Nat → Int32} {fl : Nat → Int64} {ai : Nat → Nat → Int32} {al : Nat → Nat → Int64} {F : Nat → Int32} {A : Nat → Prop} (h : va_D A ((cw cI cJ cG cZ a fi fl ai al).set 15 (a 15, .inl (cI, 8, .inl F)))) : va_D A (cw cI cJ cG cZ a fi fl (va_up ai 15 F) al) := h
theorem cwpai_16 {D : va_G} {cI cJ cG cZ : ClassId} {a : Nat → Nat} {fi : Nat → Int32} {fl : Nat → Int64} {ai : Nat → Nat → Int32} {al : Nat → Nat → Int64} {F : Nat → Int32} {H : Heap} (h : va_P D vwCl ((cw cI cJ cG cZ a fi fl ai al).set 16 (a 16, .inl (cI, 8, .inl F))) H) : va_P D vwCl (cw cI cJ cG cZ a fi fl (va_up ai 16 F) al) H := h
theorem cwdai_16 {cI cJ cG cZ : ClassId} {a : Nat → Nat} {fi : Nat → Int32} {fl : Nat → Int64} {ai : Nat → Nat → Int32} {al : Nat → Nat → Int64} {F : Nat → Int32} {A : Nat → Prop} (h : va_D A ((cw cI cJ cG cZ a fi fl ai al).set 16 (a 16, .inl (cI, 8, .inl F)))) : va_D A (cw cI cJ cG cZ a fi fl (va_up ai 16 F) al) := h
theorem cwpal_17 {D : va_G} {cI cJ cG cZ : ClassId} {a : Nat → Nat} {fi : Nat → Int32} {fl : Nat → Int64} {ai : Nat → Nat → Int32} {al : Nat → Nat → Int64} {F : Nat → Int64} {H : Heap} (h : va_P D vwCl ((cw cI cJ cG cZ a fi fl ai al).set 17 (a 17, .inl (cJ, 6, .inr (.inl F)))) H) : va_P D vwCl (cw cI cJ cG cZ a fi fl ai (va_up al 17 F)) H := h
theorem cwdal_17 {cI cJ cG cZ : ClassId} {a : Nat → Nat} {fi : Nat → Int32} {fl : Nat → Int64} {ai : Nat → Nat → Int32} {al : Nat → Nat → Int64} {F : Nat → Int64} {A : Nat → Prop} (h : va_D A ((cw cI cJ cG cZ a fi fl ai al).set 17 (a 17, .inl (cJ, 6, .inr (.inl F))))) : va_D A (cw cI cJ cG cZ a fi fl ai (va_up al 17 F)) := h
theorem cwpal_18 {D : va_G} {cI cJ cG cZ : ClassId} {a : Nat → Nat} {fi : Nat → Int32} {fl : Nat → Int64} {ai : Nat → Nat → Int32} {al : Nat → Nat → Int64} {F : Nat → Int64} {H : Heap} (h : va_P D vwCl ((cw cI cJ cG cZ a fi fl ai al).set 18 (a 18, .inl (cJ, 6, .inr (.inl F)))) H) : va_P D vwCl (cw cI cJ cG cZ a fi fl ai (va_up al 18 F)) H := h
theorem cwdal_18 {cI cJ cG cZ : ClassId} {a : Nat → Nat} {fi : Nat → Int32} {fl : Nat → Int64} {ai : Nat → Nat → Int32} {al : Nat → Nat → Int64} {F : Nat → Int64} {A : Nat → Prop} (h : va_D A ((cw cI cJ cG cZ a fi fl ai al).set 18 (a 18, .inl (cJ, 6, .inr (.inl F))))) : va_D A (cw cI cJ cG cZ a fi fl ai (va_up al 18 F)) := h
theorem cwpfi_7 {D : va_G} {cI cJ cG cZ : ClassId} {a : Nat → Nat} {fi : Nat → Int32} {fl : Nat → Int64} {ai : Nat → Nat → Int32} {al : Nat → Nat → Int64} {v : Int32} {H : Heap} (h : va_P D vwCl ((cw cI cJ cG cZ a fi fl ai al).set 19 (a 19, .inr (2, ([.int (fi 7), .ref (a 20), .ref (a 21), .ref (a 22), .ref (a 31), .ref (a 35), .ref (a 39)] : List Value).set 0 (.int v)))) H) : va_P D vwCl (cw cI cJ cG cZ a (va_up fi 7 v) fl ai al) H := h
theorem cwdfi_7 {cI cJ cG cZ : ClassId} {a : Nat → Nat} {fi : Nat → Int32} {fl : Nat → Int64} {ai : Nat → Nat → Int32} {al : Nat → Nat → Int64} {v : Int32} {A : Nat → Prop} (h : va_D A ((cw cI cJ cG cZ a fi fl ai al).set 19 (a 19, .inr (2, ([.int (fi 7), .ref (a 20), .ref (a 21), .ref (a 22), .ref (a 31), .ref (a 35), .ref (a 39)] : List Value).set 0 (.int v))))) : va_D A (cw cI cJ cG cZ a (va_up fi 7 v) fl ai al) := h
theorem cwpai_20 {D : va_G} {cI cJ cG cZ : ClassId} {a : Nat → Nat} {fi : Nat → Int32} {fl : Nat → Int64} {ai : Nat → Nat → Int32} {al : Nat → Nat → Int64} {F : Nat → Int32} {H : Heap} (h : va_P D vwCl ((cw cI cJ cG cZ a fi fl ai al).set 20 (a 20, .inl (cI, 6, .inl F))) H) : va_P D vwCl (cw cI cJ cG cZ a fi fl (va_up ai 20 F) al) H := h
theorem cwdai_20 {cI cJ cG cZ : ClassId} {a : Nat → Nat} {fi : Nat → Int32} {fl : Nat → Int64} {ai : Nat → Nat → Int32} {al : Nat → Nat → Int64} {F : Nat → Int32} {A : Nat → Prop} (h : va_D A ((cw cI cJ cG cZ a fi fl ai al).set 20 (a 20, .inl (cI, 6, .inl F)))) : va_D A (cw cI cJ cG cZ a fi fl (va_up ai 20 F) al) := h
theorem cwpai_21 {D : va_G} {cI cJ cG cZ : ClassId} {a : Nat → Nat} {fi : Nat → Int32} {fl : Nat → Int64} {ai : Nat → Nat → Int32} {al : Nat → Nat → Int64} {F : Nat → Int32} {H : Heap} (h : va_P D vwCl ((cw cI cJ cG cZ a fi fl ai al).set 21 (a 21, .inl (cI, 6, .inl F))) H) : va_P D vwCl (cw cI cJ cG cZ a fi fl (va_up ai 21 F) al) H := h
theorem cwdai_21 {cI cJ cG cZ : ClassId} {a : Nat → Nat} {fi : Nat → Int32} {fl : Nat → Int64} {ai : Nat → Nat → Int32} {al : Nat → Nat → Int64} {F : Nat → Int32} {A : Nat → Prop} (h : va_D A ((cw cI cJ cG cZ a fi fl ai al).set 21 (a 21, .inl (cI, 6, .inl F)))) : va_D A (cw cI cJ cG cZ a fi fl (va_up ai 21 F) al) := h
theorem cw_row22 (cI cJ cG cZ : ClassId) (a : Nat → Nat) (fi : Nat → Int32) (fl : Nat → Int64) (ai : Nat → Nat → Int32) (al : Nat → Nat → Int64) (i : Nat) (h : i < 8) : (cw cI cJ cG cZ a fi fl ai al)[23 + i]? = some (a (23 + i), .inl (cI, 36, .inl (ai (23 + i)))) := by
  match i, h with
  | 0, _ => rfl
  | 1, _ => rfl
  | 2, _ => rfl
  | 3, _ => rfl
  | 4, _ => rfl
  | 5, _ => rfl
  | 6, _ => rfl
  | 7, _ => rfl
theorem cwe_row22 (cI cJ cG cZ : ClassId) (a : Nat → Nat) (fi : Nat → Int32) (fl : Nat → Int64) (ai : Nat → Nat → Int32) (al : Nat → Nat → Int64) (i : Nat) (h : i < 8) (F : Nat → Int32) : ((cw cI cJ cG cZ a fi fl ai al).set (23 + i) (a (23 + i), .inl (cI, 36, .inl F))) = (cw cI cJ cG cZ a fi fl (va_up ai (23 + i) F) al) := by
  match i, h with
  | 0, _ => rfl
  | 1, _ => rfl
  | 2, _ => rfl
  | 3, _ => rfl
  | 4, _ => rfl
  | 5, _ => rfl
  | 6, _ => rfl
  | 7, _ => rfl
theorem cwp_row22 {D : va_G} {cI cJ cG cZ : ClassId} {a : Nat → Nat} {fi : Nat → Int32} {fl : Nat → Int64} {ai : Nat → Nat → Int32} {al : Nat → Nat → Int64} {i : Nat} (h : i < 8) {F : Nat → Int32} {H : Heap} (hp : va_P D vwCl ((cw cI cJ cG cZ a fi fl ai al).set (23 + i) (a (23 + i), .inl (cI, 36, .inl F))) H) : va_P D vwCl (cw cI cJ cG cZ a fi fl (va_up ai (23 + i) F) al) H := by
  rw [cwe_row22 _ _ _ _ _ _ _ _ _ i h F] at hp
  exact hp
theorem cwd_row22 {cI cJ cG cZ : ClassId} {a : Nat → Nat} {fi : Nat → Int32} {fl : Nat → Int64} {ai : Nat → Nat → Int32} {al : Nat → Nat → Int64} {i : Nat} (h : i < 8) {F : Nat → Int32} {A : Nat → Prop} (hp : va_D A ((cw cI cJ cG cZ a fi fl ai al).set (23 + i) (a (23 + i), .inl (cI, 36, .inl F)))) : va_D A (cw cI cJ cG cZ a fi fl (va_up ai (23 + i) F) al) := by
  rw [cwe_row22 _ _ _ _ _ _ _ _ _ i h F] at hp
  exact hp
theorem cw_row31 (cI cJ cG cZ : ClassId) (a : Nat → Nat) (fi : Nat → Int32) (fl : Nat → Int64) (ai : Nat → Nat → Int32) (al : Nat → Nat → Int64) (i : Nat) (h : i < 3) : (cw cI cJ cG cZ a fi fl ai al)[32 + i]? = some (a (32 + i), .inl (cI, 6, .inl (ai (32 + i)))) := by
  match i, h with
  | 0, _ => rfl
  | 1, _ => rfl
  | 2, _ => rfl
theorem cwe_row31 (cI cJ cG cZ : ClassId) (a : Nat → Nat) (fi : Nat → Int32) (fl : Nat → Int64) (ai : Nat → Nat → Int32) (al : Nat → Nat → Int64) (i : Nat) (h : i < 3) (F : Nat → Int32) : ((cw cI cJ cG cZ a fi fl ai al).set (32 + i) (a (32 + i), .inl (cI, 6, .inl F))) = (cw cI cJ cG cZ a fi fl (va_up ai (32 + i) F) al) := by
  match i, h with
  | 0, _ => rfl
  | 1, _ => rfl
  | 2, _ => rfl
theorem cwp_row31 {D : va_G} {cI cJ cG cZ : ClassId} {a : Nat → Nat} {fi : Nat → Int32} {fl : Nat → Int64} {ai : Nat → Nat → Int32} {al : Nat → Nat → Int64} {i : Nat} (h : i < 3) {F : Nat → Int32} {H : Heap} (hp : va_P D vwCl ((cw cI cJ cG cZ a fi fl ai al).set (32 + i) (a (32 + i), .inl (cI, 6, .inl F))) H) : va_P D vwCl (cw cI cJ cG cZ a fi fl (va_up ai (32 + i) F) al) H := by
  rw [cwe_row31 _ _ _ _ _ _ _ _ _ i h F] at hp
  exact hp
theorem cwd_row31 {cI cJ cG cZ : ClassId} {a : Nat → Nat} {fi : Nat → Int32} {fl : Nat → Int64} {ai : Nat → Nat → Int32} {al : Nat → Nat → Int64} {i : Nat} (h : i < 3) {F : Nat → Int32} {A : Nat → Prop} (hp : va_D A ((cw cI cJ cG cZ a fi fl ai al).set (32 + i) (a (32 + i), .inl (cI, 6, .inl F)))) : va_D A (cw cI cJ cG cZ a fi fl (va_up ai (32 + i) F) al) := by
  rw [cwe_row31 _ _ _ _ _ _ _ _ _ i h F] at hp
  exact hp
theorem cw_row35 (cI cJ cG cZ : ClassId) (a : Nat → Nat) (fi : Nat → Int32) (fl : Nat → Int64) (ai : Nat → Nat → Int32) (al : Nat → Nat → Int64) (i : Nat) (h : i < 3) : (cw cI cJ cG cZ a fi fl ai al)[36 + i]? = some (a (36 + i), .inl (cI, 6, .inl (ai (36 + i)))) := by
  match i, h with
  | 0, _ => rfl
  | 1, _ => rfl
  | 2, _ => rfl
theorem cwe_row35 (cI cJ cG cZ : ClassId) (a : Nat → Nat) (fi : Nat → Int32) (fl : Nat → Int64) (ai : Nat → Nat → Int32) (al : Nat → Nat → Int64) (i : Nat) (h : i < 3) (F : Nat → Int32) : ((cw cI cJ cG cZ a fi fl ai al).set (36 + i) (a (36 + i), .inl (cI, 6, .inl F))) = (cw cI cJ cG cZ a fi fl (va_up ai (36 + i) F) al) := by
  match i, h with
  | 0, _ => rfl
  | 1, _ => rfl
  | 2, _ => rfl
theorem cwp_row35 {D : va_G} {cI cJ cG cZ : ClassId} {a : Nat → Nat} {fi : Nat → Int32} {fl : Nat → Int64} {ai : Nat → Nat → Int32} {al : Nat → Nat → Int64} {i : Nat} (h : i < 3) {F : Nat → Int32} {H : Heap} (hp : va_P D vwCl ((cw cI cJ cG cZ a fi fl ai al).set (36 + i) (a (36 + i), .inl (cI, 6, .inl F))) H) : va_P D vwCl (cw cI cJ cG cZ a fi fl (va_up ai (36 + i) F) al) H := by
  rw [cwe_row35 _ _ _ _ _ _ _ _ _ i h F] at hp
  exact hp
theorem cwd_row35 {cI cJ cG cZ : ClassId} {a : Nat → Nat} {fi : Nat → Int32} {fl : Nat → Int64} {ai : Nat → Nat → Int32} {al : Nat → Nat → Int64} {i : Nat} (h : i < 3) {F : Nat → Int32} {A : Nat → Prop} (hp : va_D A ((cw cI cJ cG cZ a fi fl ai al).set (36 + i) (a (36 + i), .inl (cI, 6, .inl F)))) : va_D A (cw cI cJ cG cZ a fi fl (va_up ai (36 + i) F) al) := by
  rw [cwe_row35 _ _ _ _ _ _ _ _ _ i h F] at hp
  exact hp
theorem cwpai_39 {D : va_G} {cI cJ cG cZ : ClassId} {a : Nat → Nat} {fi : Nat → Int32} {fl : Nat → Int64} {ai : Nat → Nat → Int32} {al : Nat → Nat → Int64} {F : Nat → Int32} {H : Heap} (h : va_P D vwCl ((cw cI cJ cG cZ a fi fl ai al).set 39 (a 39, .inl (cI, 6, .inl F))) H) : va_P D vwCl (cw cI cJ cG cZ a fi fl (va_up ai 39 F) al) H := h
theorem cwdai_39 {cI cJ cG cZ : ClassId} {a : Nat → Nat} {fi : Nat → Int32} {fl : Nat → Int64} {ai : Nat → Nat → Int32} {al : Nat → Nat → Int64} {F : Nat → Int32} {A : Nat → Prop} (h : va_D A ((cw cI cJ cG cZ a fi fl ai al).set 39 (a 39, .inl (cI, 6, .inl F)))) : va_D A (cw cI cJ cG cZ a fi fl (va_up ai 39 F) al) := h
theorem cwpfi_8 {D : va_G} {cI cJ cG cZ : ClassId} {a : Nat → Nat} {fi : Nat → Int32} {fl : Nat → Int64} {ai : Nat → Nat → Int32} {al : Nat → Nat → Int64} {v : Int32} {H : Heap} (h : va_P D vwCl ((cw cI cJ cG cZ a fi fl ai al).set 40 (a 40, .inr (6, ([.ref (a 19), .ref (a 1), .ref (a 4), .ref (a 41), .ref (a 42), .ref (a 43), .ref (a 44), .ref (a 45), .int (fi 8), .int (fi 9), .int (fi 10)] : List Value).set 8 (.int v)))) H) : va_P D vwCl (cw cI cJ cG cZ a (va_up fi 8 v) fl ai al) H := h
theorem cwdfi_8 {cI cJ cG cZ : ClassId} {a : Nat → Nat} {fi : Nat → Int32} {fl : Nat → Int64} {ai : Nat → Nat → Int32} {al : Nat → Nat → Int64} {v : Int32} {A : Nat → Prop} (h : va_D A ((cw cI cJ cG cZ a fi fl ai al).set 40 (a 40, .inr (6, ([.ref (a 19), .ref (a 1), .ref (a 4), .ref (a 41), .ref (a 42), .ref (a 43), .ref (a 44), .ref (a 45), .int (fi 8), .int (fi 9), .int (fi 10)] : List Value).set 8 (.int v))))) : va_D A (cw cI cJ cG cZ a (va_up fi 8 v) fl ai al) := h
theorem cwpfi_9 {D : va_G} {cI cJ cG cZ : ClassId} {a : Nat → Nat} {fi : Nat → Int32} {fl : Nat → Int64} {ai : Nat → Nat → Int32} {al : Nat → Nat → Int64} {v : Int32} {H : Heap} (h : va_P D vwCl ((cw cI cJ cG cZ a fi fl ai al).set 40 (a 40, .inr (6, ([.ref (a 19), .ref (a 1), .ref (a 4), .ref (a 41), .ref (a 42), .ref (a 43), .ref (a 44), .ref (a 45), .int (fi 8), .int (fi 9), .int (fi 10)] : List Value).set 9 (.int v)))) H) : va_P D vwCl (cw cI cJ cG cZ a (va_up fi 9 v) fl ai al) H := h
theorem cwdfi_9 {cI cJ cG cZ : ClassId} {a : Nat → Nat} {fi : Nat → Int32} {fl : Nat → Int64} {ai : Nat → Nat → Int32} {al : Nat → Nat → Int64} {v : Int32} {A : Nat → Prop} (h : va_D A ((cw cI cJ cG cZ a fi fl ai al).set 40 (a 40, .inr (6, ([.ref (a 19), .ref (a 1), .ref (a 4), .ref (a 41), .ref (a 42), .ref (a 43), .ref (a 44), .ref (a 45), .int (fi 8), .int (fi 9), .int (fi 10)] : List Value).set 9 (.int v))))) : va_D A (cw cI cJ cG cZ a (va_up fi 9 v) fl ai al) := h
theorem cwpfi_10 {D : va_G} {cI cJ cG cZ : ClassId} {a : Nat → Nat} {fi : Nat → Int32} {fl : Nat → Int64} {ai : Nat → Nat → Int32} {al : Nat → Nat → Int64} {v : Int32} {H : Heap} (h : va_P D vwCl ((cw cI cJ cG cZ a fi fl ai al).set 40 (a 40, .inr (6, ([.ref (a 19), .ref (a 1), .ref (a 4), .ref (a 41), .ref (a 42), .ref (a 43), .ref (a 44), .ref (a 45), .int (fi 8), .int (fi 9), .int (fi 10)] : List Value).set 10 (.int v)))) H) : va_P D vwCl (cw cI cJ cG cZ a (va_up fi 10 v) fl ai al) H := h
theorem cwdfi_10 {cI cJ cG cZ : ClassId} {a : Nat → Nat} {fi : Nat → Int32} {fl : Nat → Int64} {ai : Nat → Nat → Int32} {al : Nat → Nat → Int64} {v : Int32} {A : Nat → Prop} (h : va_D A ((cw cI cJ cG cZ a fi fl ai al).set 40 (a 40, .inr (6, ([.ref (a 19), .ref (a 1), .ref (a 4), .ref (a 41), .ref (a 42), .ref (a 43), .ref (a 44), .ref (a 45), .int (fi 8), .int (fi 9), .int (fi 10)] : List Value).set 10 (.int v))))) : va_D A (cw cI cJ cG cZ a (va_up fi 10 v) fl ai al) := h
theorem cwpal_41 {D : va_G} {cI cJ cG cZ : ClassId} {a : Nat → Nat} {fi : Nat → Int32} {fl : Nat → Int64} {ai : Nat → Nat → Int32} {al : Nat → Nat → Int64} {F : Nat → Int64} {H : Heap} (h : va_P D vwCl ((cw cI cJ cG cZ a fi fl ai al).set 41 (a 41, .inl (cJ, 6, .inr (.inl F)))) H) : va_P D vwCl (cw cI cJ cG cZ a fi fl ai (va_up al 41 F)) H := h
theorem cwdal_41 {cI cJ cG cZ : ClassId} {a : Nat → Nat} {fi : Nat → Int32} {fl : Nat → Int64} {ai : Nat → Nat → Int32} {al : Nat → Nat → Int64} {F : Nat → Int64} {A : Nat → Prop} (h : va_D A ((cw cI cJ cG cZ a fi fl ai al).set 41 (a 41, .inl (cJ, 6, .inr (.inl F))))) : va_D A (cw cI cJ cG cZ a fi fl ai (va_up al 41 F)) := h
theorem cwpal_42 {D : va_G} {cI cJ cG cZ : ClassId} {a : Nat → Nat} {fi : Nat → Int32} {fl : Nat → Int64} {ai : Nat → Nat → Int32} {al : Nat → Nat → Int64} {F : Nat → Int64} {H : Heap} (h : va_P D vwCl ((cw cI cJ cG cZ a fi fl ai al).set 42 (a 42, .inl (cJ, 3, .inr (.inl F)))) H) : va_P D vwCl (cw cI cJ cG cZ a fi fl ai (va_up al 42 F)) H := h
theorem cwdal_42 {cI cJ cG cZ : ClassId} {a : Nat → Nat} {fi : Nat → Int32} {fl : Nat → Int64} {ai : Nat → Nat → Int32} {al : Nat → Nat → Int64} {F : Nat → Int64} {A : Nat → Prop} (h : va_D A ((cw cI cJ cG cZ a fi fl ai al).set 42 (a 42, .inl (cJ, 3, .inr (.inl F))))) : va_D A (cw cI cJ cG cZ a fi fl ai (va_up al 42 F)) := h
theorem cwpai_43 {D : va_G} {cI cJ cG cZ : ClassId} {a : Nat → Nat} {fi : Nat → Int32} {fl : Nat → Int64} {ai : Nat → Nat → Int32} {al : Nat → Nat → Int64} {F : Nat → Int32} {H : Heap} (h : va_P D vwCl ((cw cI cJ cG cZ a fi fl ai al).set 43 (a 43, .inl (cI, 6, .inl F))) H) : va_P D vwCl (cw cI cJ cG cZ a fi fl (va_up ai 43 F) al) H := h
theorem cwdai_43 {cI cJ cG cZ : ClassId} {a : Nat → Nat} {fi : Nat → Int32} {fl : Nat → Int64} {ai : Nat → Nat → Int32} {al : Nat → Nat → Int64} {F : Nat → Int32} {A : Nat → Prop} (h : va_D A ((cw cI cJ cG cZ a fi fl ai al).set 43 (a 43, .inl (cI, 6, .inl F)))) : va_D A (cw cI cJ cG cZ a fi fl (va_up ai 43 F) al) := h
theorem cwpai_44 {D : va_G} {cI cJ cG cZ : ClassId} {a : Nat → Nat} {fi : Nat → Int32} {fl : Nat → Int64} {ai : Nat → Nat → Int32} {al : Nat → Nat → Int64} {F : Nat → Int32} {H : Heap} (h : va_P D vwCl ((cw cI cJ cG cZ a fi fl ai al).set 44 (a 44, .inl (cI, 12, .inl F))) H) : va_P D vwCl (cw cI cJ cG cZ a fi fl (va_up ai 44 F) al) H := h
theorem cwdai_44 {cI cJ cG cZ : ClassId} {a : Nat → Nat} {fi : Nat → Int32} {fl : Nat → Int64} {ai : Nat → Nat → Int32} {al : Nat → Nat → Int64} {F : Nat → Int32} {A : Nat → Prop} (h : va_D A ((cw cI cJ cG cZ a fi fl ai al).set 44 (a 44, .inl (cI, 12, .inl F)))) : va_D A (cw cI cJ cG cZ a fi fl (va_up ai 44 F) al) := h
theorem cw_row45 (cI cJ cG cZ : ClassId) (a : Nat → Nat) (fi : Nat → Int32) (fl : Nat → Int64) (ai : Nat → Nat → Int32) (al : Nat → Nat → Int64) (i : Nat) (h : i < 12) : (cw cI cJ cG cZ a fi fl ai al)[46 + i]? = some (a (46 + i), .inl (cI, 12, .inl (ai (46 + i)))) := by
  match i, h with
  | 0, _ => rfl
  | 1, _ => rfl
  | 2, _ => rfl
  | 3, _ => rfl
  | 4, _ => rfl
  | 5, _ => rfl
  | 6, _ => rfl
  | 7, _ => rfl
  | 8, _ => rfl
  | 9, _ => rfl
  | 10, _ => rfl
  | 11, _ => rfl
theorem cwe_row45 (cI cJ cG cZ : ClassId) (a : Nat → Nat) (fi : Nat → Int32) (fl : Nat → Int64) (ai : Nat → Nat → Int32) (al : Nat → Nat → Int64) (i : Nat) (h : i < 12) (F : Nat → Int32) : ((cw cI cJ cG cZ a fi fl ai al).set (46 + i) (a (46 + i), .inl (cI, 12, .inl F))) = (cw cI cJ cG cZ a fi fl (va_up ai (46 + i) F) al) := by
  match i, h with
  | 0, _ => rfl
  | 1, _ => rfl
  | 2, _ => rfl
  | 3, _ => rfl
  | 4, _ => rfl
  | 5, _ => rfl
  | 6, _ => rfl
  | 7, _ => rfl
  | 8, _ => rfl
  | 9, _ => rfl
  | 10, _ => rfl
  | 11, _ => rfl
theorem cwp_row45 {D : va_G} {cI cJ cG cZ : ClassId} {a : Nat → Nat} {fi : Nat → Int32} {fl : Nat → Int64} {ai : Nat → Nat → Int32} {al : Nat → Nat → Int64} {i : Nat} (h : i < 12) {F : Nat → Int32} {H : Heap} (hp : va_P D vwCl ((cw cI cJ cG cZ a fi fl ai al).set (46 + i) (a (46 + i), .inl (cI, 12, .inl F))) H) : va_P D vwCl (cw cI cJ cG cZ a fi fl (va_up ai (46 + i) F) al) H := by
  rw [cwe_row45 _ _ _ _ _ _ _ _ _ i h F] at hp
  exact hp
theorem cwd_row45 {cI cJ cG cZ : ClassId} {a : Nat → Nat} {fi : Nat → Int32} {fl : Nat → Int64} {ai : Nat → Nat → Int32} {al : Nat → Nat → Int64} {i : Nat} (h : i < 12) {F : Nat → Int32} {A : Nat → Prop} (hp : va_D A ((cw cI cJ cG cZ a fi fl ai al).set (46 + i) (a (46 + i), .inl (cI, 12, .inl F)))) : va_D A (cw cI cJ cG cZ a fi fl (va_up ai (46 + i) F) al) := by
  rw [cwe_row45 _ _ _ _ _ _ _ _ _ i h F] at hp
  exact hp
theorem cwpfi_11 {D : va_G} {cI cJ cG cZ : ClassId} {a : Nat → Nat} {fi : Nat → Int32} {fl : Nat → Int64} {ai : Nat → Nat → Int32} {al : Nat → Nat → Int64} {v : Int32} {H : Heap} (h : va_P D vwCl ((cw cI cJ cG cZ a fi fl ai al).set 58 (a 58, .inr (5, ([.ref (a 19), .ref (a 4), .ref (a 40), .ref (a 59), .ref (a 60), .int (fi 11), .long (fl 0)] : List Value).set 5 (.int v)))) H) : va_P D vwCl (cw cI cJ cG cZ a (va_up fi 11 v) fl ai al) H := h
theorem cwdfi_11 {cI cJ cG cZ : ClassId} {a : Nat → Nat} {fi : Nat → Int32} {fl : Nat → Int64} {ai : Nat → Nat → Int32} {al : Nat → Nat → Int64} {v : Int32} {A : Nat → Prop} (h : va_D A ((cw cI cJ cG cZ a fi fl ai al).set 58 (a 58, .inr (5, ([.ref (a 19), .ref (a 4), .ref (a 40), .ref (a 59), .ref (a 60), .int (fi 11), .long (fl 0)] : List Value).set 5 (.int v))))) : va_D A (cw cI cJ cG cZ a (va_up fi 11 v) fl ai al) := h
theorem cwpfl_0 {D : va_G} {cI cJ cG cZ : ClassId} {a : Nat → Nat} {fi : Nat → Int32} {fl : Nat → Int64} {ai : Nat → Nat → Int32} {al : Nat → Nat → Int64} {v : Int64} {H : Heap} (h : va_P D vwCl ((cw cI cJ cG cZ a fi fl ai al).set 58 (a 58, .inr (5, ([.ref (a 19), .ref (a 4), .ref (a 40), .ref (a 59), .ref (a 60), .int (fi 11), .long (fl 0)] : List Value).set 6 (.long v)))) H) : va_P D vwCl (cw cI cJ cG cZ a fi (va_up fl 0 v) ai al) H := h
theorem cwdfl_0 {cI cJ cG cZ : ClassId} {a : Nat → Nat} {fi : Nat → Int32} {fl : Nat → Int64} {ai : Nat → Nat → Int32} {al : Nat → Nat → Int64} {v : Int64} {A : Nat → Prop} (h : va_D A ((cw cI cJ cG cZ a fi fl ai al).set 58 (a 58, .inr (5, ([.ref (a 19), .ref (a 4), .ref (a 40), .ref (a 59), .ref (a 60), .int (fi 11), .long (fl 0)] : List Value).set 6 (.long v))))) : va_D A (cw cI cJ cG cZ a fi (va_up fl 0 v) ai al) := h
theorem cwpai_59 {D : va_G} {cI cJ cG cZ : ClassId} {a : Nat → Nat} {fi : Nat → Int32} {fl : Nat → Int64} {ai : Nat → Nat → Int32} {al : Nat → Nat → Int64} {F : Nat → Int32} {H : Heap} (h : va_P D vwCl ((cw cI cJ cG cZ a fi fl ai al).set 59 (a 59, .inl (cI, 6, .inl F))) H) : va_P D vwCl (cw cI cJ cG cZ a fi fl (va_up ai 59 F) al) H := h
theorem cwdai_59 {cI cJ cG cZ : ClassId} {a : Nat → Nat} {fi : Nat → Int32} {fl : Nat → Int64} {ai : Nat → Nat → Int32} {al : Nat → Nat → Int64} {F : Nat → Int32} {A : Nat → Prop} (h : va_D A ((cw cI cJ cG cZ a fi fl ai al).set 59 (a 59, .inl (cI, 6, .inl F)))) : va_D A (cw cI cJ cG cZ a fi fl (va_up ai 59 F) al) := h
theorem cwpai_60 {D : va_G} {cI cJ cG cZ : ClassId} {a : Nat → Nat} {fi : Nat → Int32} {fl : Nat → Int64} {ai : Nat → Nat → Int32} {al : Nat → Nat → Int64} {F : Nat → Int32} {H : Heap} (h : va_P D vwCl ((cw cI cJ cG cZ a fi fl ai al).set 60 (a 60, .inl (cI, 6, .inl F))) H) : va_P D vwCl (cw cI cJ cG cZ a fi fl (va_up ai 60 F) al) H := h
theorem cwdai_60 {cI cJ cG cZ : ClassId} {a : Nat → Nat} {fi : Nat → Int32} {fl : Nat → Int64} {ai : Nat → Nat → Int32} {al : Nat → Nat → Int64} {F : Nat → Int32} {A : Nat → Prop} (h : va_D A ((cw cI cJ cG cZ a fi fl ai al).set 60 (a 60, .inl (cI, 6, .inl F)))) : va_D A (cw cI cJ cG cZ a fi fl (va_up ai 60 F) al) := h
