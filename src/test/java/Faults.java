/** The faults of the document, by their numbers. */
final class Faults {
    static final int NO_FAULT = 0;
    static final int ZERO = 1;
    static final int PLACE = 2;
    static final int OWN = 3;
    static final int ENDLESS = 4;
    static final int START = 5;
    static final int GONE = 6;
    static final int LIBRARY = 7;
    static final int MISSING = 8;

    private Faults() { }
}
