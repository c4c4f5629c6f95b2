/** The slow reader gives up: parts of the row are read in very many ways. */
final class TooMany extends RuntimeException {
    private static final long serialVersionUID = 1L;
}
