/** The calls of the document's face, as numbers: a boolean is 1 or 0, an exception one of three numbers. */
interface Names {
    int ARGUMENT = -1001;
    int INDEX = -1002;
    int STATE = -1003;

    int unit(int row, int u);

    int clear(int row);

    int about(int row, int what);

    int letter(int row, int i);

    int alike();

    int write(int row, int slot, int tail);

    int read(int row, int slot, int parts);

    int poke(int slot, int at, int value);

    int byteAt(int slot, int at);

    int sum(int slot);

    long seconds(int day, int time);
}
