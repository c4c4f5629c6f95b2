/** A symbol: sort 1 note, 2 rest, 3 dot. */
record Symbol(int sort, int kind, int pitch, boolean coloured) {
    static final Symbol DOT = new Symbol(3, -1, -1, false);

    boolean isPlain(int k) {
        return sort == 1 && kind == k && !coloured;
    }

    boolean isColoured(int k) {
        return sort == 1 && kind == k && coloured;
    }
}
