/** The document's words for kinds, acts and questions, by their numbers. */
interface Words {
    int Z = 1;
    int B = 2;
    int S = 3;
    int C = 4;
    int I = 5;
    int J = 6;
    int O = 7;

    int GET = 0;
    int SET = 1;
    int SWAP = 2;
    int TRY = 3;
    int ADD = 4;
    int AND = 5;
    int OR = 6;
    int MOST = 7;

    int KIND = -1;
    int SIZE = -2;

    int NONE = PlaceDesk.NONE;
    long NULL = -1;

    int LOWEST = Integer.MIN_VALUE;
    int HIGHEST = Integer.MAX_VALUE;
}
