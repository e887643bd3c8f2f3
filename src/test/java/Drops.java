/** The face of the document, so that the program and the plain model can be asked the same. */
interface Drops {
    boolean cell(int x, int y, int kind);

    int dispense(int liquid);

    int send(int d, int x, int y);

    int join(int d, int e);

    int halve(int d, boolean upright);

    int discard(int d);

    int run(int n);

    int time();

    int droplets();

    int look(int d, int what);

    int ahead(int d, int n);

    long share(int d, int liquid);

    int reading(int i, int what);

    int units(int what);

    int kind(int x, int y);

    /** One in the same state, of which more can be asked. */
    Drops again();
}
