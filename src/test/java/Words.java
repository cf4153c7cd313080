/** The document's words as numbers, and the hands of a Scene; what is told by NO_ is beyond a Scene's bounds. */
interface Words {
    int NONE = CustodyRoom.NONE;
    int MIN = Integer.MIN_VALUE;
    int MAX = Integer.MAX_VALUE;

    int IN = 1;
    int OUT = 2;
    int HAND = 3;
    int BACK = 4;
    int PUT = 5;
    int INTO = 6;
    int FROM = 7;
    int CLOSE = 8;
    int UNSEAL = 9;
    int LOOK = 10;
    int PART = 11;
    int COPY = 12;
    int WEIGH = 13;
    int KEEP = 14;
    int DESTROY = 15;
    int TRIAL = 16;
    int OVER = 17;
    int DESTROYED = 18;
    int FOUND = 19;

    int A_THING = 0;
    int A_BAG = 1;
    int A_SAMPLE = 2;
    int A_COPY = 3;
    int A_COLD_BAG = 4;
    int A_MONEY_BAG = 5;

    int ANN = 0;
    int BEN = 1;
    int CAT = 2;
    int DAN = 3;
    int EVE = 4;
    int[] NO_HANDS = {-1, -2, 5, 20, MIN, MAX};
    int[] NO_KEEPERS = {DAN, EVE, -1, -2, 5, 20, MIN, MAX};
    int[] NO_PLACES = {-1, -2, 24, 96, MIN, MAX};
    int[] NO_THINGS = {-1, -2, 60, MIN, MAX};
    int[] NO_DAYS = {-1, -2, 100001, MIN, MAX};

    int NOWHERE = 0;
    int AT_PLACE = 1;
    int IN_HAND = 2;
    int IN_BAG = 3;
    int GONE = 4;
}
