/-! the word that rows of rows of t have a class: the printed names' row of 'new T[n][m]' asks for it by this name -/
def va_AOA (t : FieldType) (U : State) : Prop := va_Nw (.arrayOver (.array t)) U
theorem va_AOA.use {t : FieldType} {A : Array Value} {U : State} (h : va_AOA t U) : (Cond.arrayOver (.array t)).before A U = true := h
