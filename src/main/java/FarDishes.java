/** Dishes for far ships: what each call promises stands in the document, under its number. */
public final class FarDishes {
    private static final int BEYOND = -1000001;
    private static final int FULL = -1000002;
    private static final int KIND = -1000003;
    private static final int NONE = -1000004;
    private static final int STATE = -1000005;
    private static final int MISSING = -1000006;
    private static final int SIZE = -1000007;
    private static final int FINDINGS = 7;

    private static final int PLACES = 3;
    private static final int RAIN_DAYS = 14;
    private static final int DISHES = 6;
    private static final int CRAFT = 8;
    private static final int ASKINGS = 14;
    private static final int BLOCKS = 12;
    private static final int ORDERS = 12;
    private static final int STATES = 8;
    private static final int CELLS = 64;
    private static final int SHEETS = 4;
    private static final int NUMBERS = 24;
    private static final int TAPE = 110;
    private static final int ONES = 4;
    private static final int LOOKED_AT = 5;

    private static final int DAY = 24;
    private static final int LAST_HOUR = 2000;
    private static final int FAR_HOUR = 4000;
    private static final int MOST_WORTH = 999;

    private static final int TRACK_KIND = 0;
    private static final int SEND_KIND = 1;
    private static final int HEAR_KIND = 2;
    private static final int BOTH_KIND = 3;
    private static final int FAR_KIND = 4;
    private static final int SHARED_KIND = 5;
    private static final int ARRAY_KIND = 6;
    private static final int[] UNDER = {-1, 0, 0, 0, 3, 2, 2};

    private static final int WAITS = 0;
    private static final int PLANNED = 1;
    private static final int RUNS = 2;
    private static final int DONE = 3;
    private static final int BROKEN = 4;

    private final World now;
    private final World kept;
    private final World trial;
    private final Planner planner;
    private final Text text;
    private final Sheet[] sheets;
    private final int[] told;
    private boolean hasImage;

    public FarDishes() {
        now = new World();
        kept = new World();
        trial = new World();
        planner = new Planner();
        text = new Text();
        sheets = new Sheet[SHEETS];
        for (int s = 0; s < SHEETS; s++) {
            sheets[s] = new Sheet();
        }
        told = new int[FINDINGS];
        hasImage = false;
    }

    // ---- places, dishes, craft

    public int rain(int place, int rest, int v) {
        if (outside(place, 0, PLACES - 1) || outside(rest, 0, RAIN_DAYS - 1) || outside(v, 0, 9)) {
            return finding(BEYOND);
        }
        return now.setRain(place, rest, v);
    }

    public int dish(int place, int size, int turn) {
        if (outside(place, 0, PLACES - 1) || outside(size, 1, 9) || outside(turn, 0, 3)) {
            return finding(BEYOND);
        }
        if (now.dishCount >= DISHES) {
            return finding(FULL);
        }
        return now.addDish(place, size, turn);
    }

    public int mend(int dish, boolean broken) {
        if (noDish(dish)) {
            return finding(BEYOND);
        }
        Dish d = now.dishes[dish];
        int news = d.broken == broken ? 0 : 1;
        d.broken = broken;
        return news;
    }

    public int dishIs(int dish, int what) {
        if (noDish(dish)) {
            return finding(BEYOND);
        }
        Dish d = now.dishes[dish];
        switch (what) {
            case 0: return d.place;
            case 1: return d.size;
            case 2: return d.turn;
            case 3: return d.broken ? 1 : 0;
            case 4: return now.runningOn(dish);
            default: return finding(BEYOND);
        }
    }

    public int craft(int loud, int far, int blocks) {
        int room = blocks / 10;
        int rate = blocks % 10;
        if (outside(loud, 1, 9) || outside(far, 0, 30) || outside(room, 1, BLOCKS) || outside(rate, 0, 6)) {
            return finding(BEYOND);
        }
        if (now.craftCount >= CRAFT) {
            return finding(FULL);
        }
        return now.addCraft(loud, far, room, rate);
    }

    public int craftIs(int craft, int what) {
        if (noCraft(craft)) {
            return finding(BEYOND);
        }
        Craft c = now.crafts[craft];
        switch (what) {
            case 0: return c.loud;
            case 1: return c.far;
            case 2: return c.blocks.room;
            case 3: return c.rate;
            case 4: return c.blocks.size;
            case 5: return c.blocks.held();
            case 6: return c.blocks.made;
            case 7: return c.blocks.had;
            case 8: return c.blocks.dropped;
            case 9: return c.blocks.lost;
            case 10: return c.orders.size;
            default: return finding(BEYOND);
        }
    }

    public int rises(int craft, int place, int clock, int n) {
        if (noCraft(craft) || outside(place, 0, PLACES - 1) || outside(clock, 0, DAY - 1) || outside(n, 0, DAY)) {
            return finding(BEYOND);
        }
        return now.crafts[craft].setUp(place, clock, n);
    }

    public int up(int craft, int place, int hour) {
        if (noCraft(craft) || outside(place, 0, PLACES - 1) || outside(hour, 0, FAR_HOUR)) {
            return finding(BEYOND);
        }
        return now.crafts[craft].isUp(place, hour) ? 1 : 0;
    }

    public int rise(int craft, int place, int hour, int n) {
        if (noCraft(craft) || outside(place, 0, PLACES - 1) || outside(hour, 0, FAR_HOUR) || outside(n, 1, 9)) {
            return finding(BEYOND);
        }
        int first = now.crafts[craft].firstUp(place, hour, n);
        return first < 0 ? finding(NONE) : first;
    }

    public int link(int craft, int dish, int hour) {
        if (noCraft(craft) || noDish(dish) || outside(hour, 0, FAR_HOUR)) {
            return finding(BEYOND);
        }
        return now.linkAt(now.crafts[craft], now.dishes[dish], hour);
    }

    // ---- askings

    public int feed(int bytes, int n) {
        if (outside(n, 1, 4)) {
            return finding(BEYOND);
        }
        if (text.length + n > TAPE) {
            return finding(FULL);
        }
        return text.append(bytes, n);
    }

    public int wipe() {
        return text.clear();
    }

    public int asks() {
        int fault = text.readAll(now.craftCount);
        if (fault >= 0) {
            text.clear();
            return -1 - fault;
        }
        if (now.askingCount + text.ones > ASKINGS) {
            return finding(FULL);
        }
        for (int i = 0; i < text.ones; i++) {
            now.addAsking(text.read[i]);
        }
        text.clear();
        return text.ones;
    }

    public int asking(int asking, int what) {
        if (noAsking(asking)) {
            return finding(BEYOND);
        }
        Asking a = now.askings[asking];
        switch (what) {
            case 0: return a.kind;
            case 1: return a.craft;
            case 2: return a.n;
            case 3: return a.from;
            case 4: return a.to;
            case 5: return a.worth;
            case 6: return a.state;
            case 7: return a.dish;
            case 8: return a.start;
            case 9: return now.weightOf(asking, a.worth);
            default: return finding(BEYOND);
        }
    }

    public int as(int asking, int kind) {
        if (noAsking(asking) || outside(kind, TRACK_KIND, ARRAY_KIND)) {
            return finding(BEYOND);
        }
        return now.askings[asking].isOf(kind) ? asking : finding(KIND);
    }

    public int worth(int asking, int v) {
        if (noAsking(asking) || outside(v, 0, MOST_WORTH)) {
            return finding(BEYOND);
        }
        Asking a = now.askings[asking];
        if (a.state != WAITS && a.state != BROKEN) {
            return finding(STATE);
        }
        int was = a.worth;
        a.worth = v;
        a.waitAgain();
        return was;
    }

    // ---- plans

    public int plan(int asking) {
        if (asking != -1 && noAsking(asking)) {
            return finding(BEYOND);
        }
        planner.planWaiting(now, -1);
        return asking == -1 ? planner.bestWeight : planner.dishOf(asking);
    }

    public int begins(int asking) {
        if (noAsking(asking)) {
            return finding(BEYOND);
        }
        planner.planWaiting(now, -1);
        int start = planner.startOf(asking);
        return start < 0 ? finding(NONE) : start;
    }

    public int without(int asking) {
        if (noAsking(asking)) {
            return finding(BEYOND);
        }
        if (now.askings[asking].state != WAITS) {
            return finding(STATE);
        }
        planner.planWaiting(now, asking);
        return planner.bestWeight;
    }

    public int takes(int asking, int v) {
        if (noAsking(asking) || outside(v, 0, MOST_WORTH)) {
            return finding(BEYOND);
        }
        if (now.askings[asking].state != WAITS) {
            return finding(STATE);
        }
        planner.planWaiting(now, -1);
        int before = planner.inPlan();
        planner.planWithWorth(now, asking, v);
        return before & ~planner.inPlan();
    }

    public int bars(int asking, int other) {
        if (noAsking(asking) || noAsking(other) || asking == other) {
            return finding(BEYOND);
        }
        if (now.askings[asking].state != WAITS || now.askings[other].state != WAITS) {
            return finding(STATE);
        }
        planner.planPair(now, Math.min(asking, other), Math.max(asking, other));
        boolean both = planner.dishOf(asking) >= 0 && planner.dishOf(other) >= 0;
        planner.planPair(now, asking, -1);
        boolean oneAlone = planner.dishOf(asking) >= 0;
        planner.planPair(now, other, -1);
        boolean otherAlone = planner.dishOf(other) >= 0;
        return !both && oneAlone && otherAlone ? 1 : 0;
    }

    public int judge(int s) {
        if (noSheet(s)) {
            return finding(BEYOND);
        }
        Sheet sheet = sheets[s];
        if (sheet.isMissing()) {
            return finding(MISSING);
        }
        planner.lookAtWaiting(now, -1);
        if (sheet.size != planner.size) {
            return finding(SIZE);
        }
        for (int i = 0; i < sheet.size; i++) {
            if (outside(sheet.numbers[i], -1, now.dishCount - 1)) {
                return finding(BEYOND);
            }
        }
        return planner.weightOfRow(now, sheet.numbers);
    }

    public int hold() {
        planner.planWaiting(now, -1);
        return planner.holdIn(now);
    }

    public int drop(int asking) {
        if (noAsking(asking)) {
            return finding(BEYOND);
        }
        Asking a = now.askings[asking];
        if (a.state != PLANNED) {
            return finding(STATE);
        }
        int was = a.dish;
        a.waitAgain();
        return was;
    }

    // ---- hours

    public int run(int n) {
        if (outside(n, 1, 100)) {
            return finding(BEYOND);
        }
        if (now.hour + n > LAST_HOUR) {
            return finding(FULL);
        }
        for (int i = 0; i < n; i++) {
            now.goHour();
        }
        return now.hour;
    }

    public int block(int craft, int i, int what) {
        if (noCraft(craft) || outside(what, 0, 2)) {
            return finding(BEYOND);
        }
        Blocks blocks = now.crafts[craft].blocks;
        if (outside(i, 0, blocks.size - 1)) {
            return finding(NONE);
        }
        switch (what) {
            case 0: return blocks.number[i];
            case 1: return blocks.sent[i] < 0 ? 0 : 1;
            default: return blocks.sent[i];
        }
    }

    public int name(int craft, int number) {
        if (noCraft(craft) || number < 0) {
            return finding(BEYOND);
        }
        Craft c = now.crafts[craft];
        return c.blocks.have(number, now.hour - c.far);
    }

    public int over(int craft, int n) {
        if (noCraft(craft) || outside(n, 1, 9)) {
            return finding(BEYOND);
        }
        Craft c = now.crafts[craft];
        return c.blocks.lostBy(n * c.rate);
    }

    // ---- orders

    public int order(int craft, int last) {
        if (noCraft(craft) || outside(last, now.hour, LAST_HOUR)) {
            return finding(BEYOND);
        }
        Orders orders = now.crafts[craft].orders;
        if (orders.size >= ORDERS) {
            return finding(FULL);
        }
        return orders.add(now.hour, last);
    }

    public int again(int craft, int order) {
        if (noOrder(craft, order)) {
            return finding(BEYOND);
        }
        Orders orders = now.crafts[craft].orders;
        if (!orders.canGoAgain(order, now.hour)) {
            return finding(STATE);
        }
        orders.resent[order] = now.hour;
        return 1;
    }

    public int orderIs(int craft, int order, int what) {
        if (noOrder(craft, order)) {
            return finding(BEYOND);
        }
        Orders orders = now.crafts[craft].orders;
        switch (what) {
            case 0: return orders.sent[order];
            case 1: return orders.resent[order];
            case 2: return orders.last[order];
            case 3: return orders.state[order];
            case 4: return orders.doneIn[order];
            default: return finding(BEYOND);
        }
    }

    // ---- silence, search

    public int table(int craft, int s, int to, boolean heard) {
        if (noCraft(craft) || outside(s, 0, STATES - 1) || outside(to, 0, STATES - 1)) {
            return finding(BEYOND);
        }
        return now.crafts[craft].quiet.setState(s, to, heard);
    }

    public int silence(int craft, int s) {
        if (noCraft(craft) || outside(s, 0, STATES - 1)) {
            return finding(BEYOND);
        }
        int days = now.crafts[craft].quiet.daysFrom(s);
        return days < 0 ? finding(NONE) : days;
    }

    public int ever(int craft) {
        if (noCraft(craft)) {
            return finding(BEYOND);
        }
        return now.crafts[craft].quiet.neverHeard();
    }

    public int cell(int cell, int v) {
        if (outside(cell, 0, CELLS - 1) || outside(v, 0, 99)) {
            return finding(BEYOND);
        }
        return now.search.setOdds(cell, v);
    }

    public int seek() {
        int next = now.search.lookNext();
        return next < 0 ? finding(NONE) : next;
    }

    public int stop(int v) {
        if (outside(v, 1, 100)) {
            return finding(BEYOND);
        }
        int looks = now.search.looksFor(v);
        return looks < 0 ? finding(NONE) : looks;
    }

    // ---- records

    public int check(int s) {
        if (noSheet(s)) {
            return finding(BEYOND);
        }
        Sheet sheet = sheets[s];
        if (sheet.isMissing()) {
            return finding(MISSING);
        }
        trial.become(now);
        for (int i = 0; i < sheet.size; i++) {
            if (trial.goHour() != sheet.numbers[i]) {
                return i;
            }
        }
        return sheet.size;
    }

    // ---- sheets

    public int sheet(int s, int bits, int n) {
        if (noSheet(s) || (bits != 0 && bits != 8 && bits != 16 && bits != 32)) {
            return finding(BEYOND);
        }
        if (n < 0) {
            return finding(SIZE);
        }
        if (n > NUMBERS) {
            return finding(BEYOND);
        }
        return sheets[s].begin(bits, n);
    }

    public int write(int s, int i, int v) {
        if (noSheet(s)) {
            return finding(BEYOND);
        }
        Sheet sheet = sheets[s];
        if (sheet.isMissing()) {
            return finding(MISSING);
        }
        if (outside(i, 0, sheet.size - 1)) {
            return finding(BEYOND);
        }
        sheet.set(i, v);
        return 1;
    }

    public int copy(int s, int from, int t, int to, int n) {
        if (noSheet(s) || noSheet(t)) {
            return finding(BEYOND);
        }
        Sheet source = sheets[s];
        Sheet target = sheets[t];
        if (source.isMissing() || target.isMissing()) {
            return finding(MISSING);
        }
        if (source.bits != target.bits) {
            return finding(KIND);
        }
        if (!source.hasRange(from, n) || !target.hasRange(to, n)) {
            return finding(BEYOND);
        }
        System.arraycopy(source.numbers, from, target.numbers, to, n);
        return n;
    }

    // ---- images

    public int image() {
        kept.become(now);
        hasImage = true;
        return 1;
    }

    public int undo() {
        if (!hasImage) {
            return finding(NONE);
        }
        now.become(kept);
        return now.hour;
    }

    public int tear() {
        int had = hasImage ? 1 : 0;
        hasImage = false;
        return had;
    }

    public int count(int what) {
        switch (what) {
            case 0: return now.dishCount;
            case 1: return now.brokenDishes();
            case 2: return now.craftCount;
            case 3: return now.askingCount;
            case 4: return now.askingsIn(WAITS);
            case 5: return now.askingsIn(PLANNED);
            case 6: return now.askingsIn(RUNS);
            case 7: return now.askingsIn(DONE);
            case 8: return now.askingsIn(BROKEN);
            case 9: return now.hour;
            case 10: return text.length;
            case 11: return now.allBlocks();
            case 12: return now.search.left();
            default: return finding(BEYOND);
        }
    }

    public int status(int which) {
        if (outside(which, -1, FINDINGS - 1)) {
            return finding(BEYOND);
        }
        if (which >= 0) {
            return told[which];
        }
        int all = 0;
        for (int i = 0; i < FINDINGS; i++) {
            all += told[i];
        }
        return all;
    }

    // ---- what the calls share

    private static boolean outside(int v, int least, int most) {
        return v < least || v > most;
    }

    private boolean noDish(int dish) {
        return outside(dish, 0, now.dishCount - 1);
    }

    private boolean noCraft(int craft) {
        return outside(craft, 0, now.craftCount - 1);
    }

    private boolean noAsking(int asking) {
        return outside(asking, 0, now.askingCount - 1);
    }

    private boolean noOrder(int craft, int order) {
        return noCraft(craft) || outside(order, 0, now.crafts[craft].orders.size - 1);
    }

    private static boolean noSheet(int s) {
        return outside(s, 0, SHEETS - 1);
    }

    private int finding(int which) {
        int i = BEYOND - which;
        if (i >= 0 && i < FINDINGS) {
            told[i]++;
        }
        return which;
    }

    /** All that an image keeps: sections 1 to 5 without THE TAPE. Its rows are made once and used again. */
    private static final class World {
        int hour;
        int dishCount;
        int craftCount;
        int askingCount;
        final int[] rains = new int[PLACES * RAIN_DAYS];
        final Dish[] dishes = new Dish[DISHES];
        final Craft[] crafts = new Craft[CRAFT];
        final Asking[] askings = new Asking[ASKINGS];
        final Search search = new Search();

        World() {
            for (int i = 0; i < DISHES; i++) {
                dishes[i] = new Dish();
            }
            for (int i = 0; i < CRAFT; i++) {
                crafts[i] = new Craft();
            }
            for (int i = 0; i < ASKINGS; i++) {
                askings[i] = new Asking();
            }
        }

        void become(World other) {
            hour = other.hour;
            dishCount = other.dishCount;
            craftCount = other.craftCount;
            askingCount = other.askingCount;
            System.arraycopy(other.rains, 0, rains, 0, rains.length);
            for (int i = 0; i < dishCount; i++) {
                dishes[i].become(other.dishes[i]);
            }
            for (int i = 0; i < craftCount; i++) {
                crafts[i].become(other.crafts[i]);
            }
            for (int i = 0; i < askingCount; i++) {
                askings[i].become(other.askings[i]);
            }
            search.become(other.search);
        }

        int setRain(int place, int rest, int v) {
            int at = place * RAIN_DAYS + rest;
            int was = rains[at];
            rains[at] = v;
            return was;
        }

        int addDish(int place, int size, int turn) {
            dishes[dishCount].begin(place, size, turn);
            dishCount++;
            return dishCount - 1;
        }

        int addCraft(int loud, int far, int room, int rate) {
            crafts[craftCount].begin(loud, far, room, rate);
            craftCount++;
            return craftCount - 1;
        }

        void addAsking(int[] one) {
            askings[askingCount].begin(one);
            askingCount++;
        }

        int linkAt(Craft c, Dish d, int inHour) {
            if (d.broken) {
                return 0;
            }
            int rain = rains[d.place * RAIN_DAYS + inHour / DAY % RAIN_DAYS];
            return Math.max(0, c.loud * d.size - rain);
        }

        int weightOf(int asking, int worth) {
            Asking a = askings[asking];
            return a.weightWith(worth, crafts[a.craft].far);
        }

        int runningOn(int dish) {
            for (int i = 0; i < askingCount; i++) {
                if (askings[i].state == RUNS && askings[i].dish == dish) {
                    return i;
                }
            }
            return -1;
        }

        /** An hour goes: how many blocks are sent in it. */
        int goHour() {
            startAskings();
            int sent = 0;
            for (int d = 0; d < dishCount; d++) {
                sent += serve(d);
            }
            finishAskings();
            for (int c = 0; c < craftCount; c++) {
                crafts[c].orders.settle(hour, crafts[c].far);
            }
            if (hour % DAY == DAY - 1) {
                makeBlocks();
            }
            hour++;
            return sent;
        }

        private void startAskings() {
            for (int i = 0; i < askingCount; i++) {
                if (askings[i].state == PLANNED && askings[i].start == hour) {
                    askings[i].state = RUNS;
                }
            }
        }

        private int serve(int dish) {
            int running = runningOn(dish);
            if (running < 0) {
                return 0;
            }
            Asking a = askings[running];
            if (dishes[dish].broken) {
                a.state = BROKEN;
                return 0;
            }
            Craft c = crafts[a.craft];
            if (a.isOf(SEND_KIND) || a.isOf(BOTH_KIND)) {
                c.orders.goOut(hour);
            }
            if (a.isOf(HEAR_KIND) || a.isOf(BOTH_KIND)) {
                return c.blocks.sendSome(linkAt(c, dishes[dish], hour) / 8, hour, 2 * c.far);
            }
            return 0;
        }

        private void finishAskings() {
            for (int i = 0; i < askingCount; i++) {
                if (askings[i].state == RUNS && askings[i].end() <= hour + 1) {
                    askings[i].state = DONE;
                }
            }
        }

        private void makeBlocks() {
            for (int c = 0; c < craftCount; c++) {
                for (int i = 0; i < crafts[c].rate; i++) {
                    crafts[c].blocks.makeOne();
                }
            }
        }

        int brokenDishes() {
            int broken = 0;
            for (int d = 0; d < dishCount; d++) {
                if (dishes[d].broken) {
                    broken++;
                }
            }
            return broken;
        }

        int askingsIn(int state) {
            int found = 0;
            for (int i = 0; i < askingCount; i++) {
                if (askings[i].state == state) {
                    found++;
                }
            }
            return found;
        }

        int allBlocks() {
            int all = 0;
            for (int c = 0; c < craftCount; c++) {
                all += crafts[c].blocks.size;
            }
            return all;
        }
    }

    private static final class Dish {
        int place;
        int size;
        int turn;
        boolean broken;

        void begin(int newPlace, int newSize, int newTurn) {
            place = newPlace;
            size = newSize;
            turn = newTurn;
            broken = false;
        }

        void become(Dish other) {
            place = other.place;
            size = other.size;
            turn = other.turn;
            broken = other.broken;
        }
    }

    private static final class Craft {
        int loud;
        int far;
        int rate;
        final int[] upFrom = new int[PLACES];
        final int[] upFor = new int[PLACES];
        final Blocks blocks = new Blocks();
        final Orders orders = new Orders();
        final Silence quiet = new Silence();

        /** All is set anew: after an undo the rows may bear what a later craft left. */
        void begin(int newLoud, int newFar, int room, int newRate) {
            loud = newLoud;
            far = newFar;
            rate = newRate;
            for (int p = 0; p < PLACES; p++) {
                upFrom[p] = 0;
                upFor[p] = 0;
            }
            blocks.begin(room);
            orders.size = 0;
            quiet.begin();
        }

        void become(Craft other) {
            loud = other.loud;
            far = other.far;
            rate = other.rate;
            System.arraycopy(other.upFrom, 0, upFrom, 0, PLACES);
            System.arraycopy(other.upFor, 0, upFor, 0, PLACES);
            blocks.become(other.blocks);
            orders.become(other.orders);
            quiet.become(other.quiet);
        }

        int setUp(int place, int clock, int n) {
            int was = upFor[place];
            upFrom[place] = clock;
            upFor[place] = n;
            return was;
        }

        boolean isUp(int place, int hour) {
            return sinceRise(place, hour) < upFor[place];
        }

        /** The first hour from one on from which on it is up for n hours in a row; -1: never. */
        int firstUp(int place, int hour, int n) {
            if (upFor[place] == DAY) {
                return hour;
            }
            if (upFor[place] < n) {
                return -1;
            }
            int since = sinceRise(place, hour);
            return since + n <= upFor[place] ? hour : hour + DAY - since;
        }

        private int sinceRise(int place, int hour) {
            return (hour + DAY - upFrom[place]) % DAY;
        }
    }

    /** The blocks of a craft, by numbers; sent -1: held. */
    private static final class Blocks {
        int room;
        int size;
        int made;
        int had;
        int dropped;
        int lost;
        final int[] number = new int[BLOCKS];
        final int[] sent = new int[BLOCKS];

        void begin(int newRoom) {
            room = newRoom;
            size = 0;
            made = 0;
            had = 0;
            dropped = 0;
            lost = 0;
        }

        void become(Blocks other) {
            room = other.room;
            size = other.size;
            made = other.made;
            had = other.had;
            dropped = other.dropped;
            lost = other.lost;
            System.arraycopy(other.number, 0, number, 0, BLOCKS);
            System.arraycopy(other.sent, 0, sent, 0, BLOCKS);
        }

        int held() {
            int found = 0;
            for (int i = 0; i < size; i++) {
                if (sent[i] < 0) {
                    found++;
                }
            }
            return found;
        }

        void makeOne() {
            if (size >= room) {
                makeRoom();
            }
            number[size] = made;
            sent[size] = -1;
            size++;
            made++;
        }

        private void makeRoom() {
            int oldest = longestSent();
            if (oldest >= 0) {
                dropped++;
                takeOut(oldest);
            } else {
                lost++;
                takeOut(0);
            }
        }

        private int longestSent() {
            int oldest = -1;
            for (int i = 0; i < size; i++) {
                if (sent[i] >= 0 && (oldest < 0 || sent[i] < sent[oldest])) {
                    oldest = i;
                }
            }
            return oldest;
        }

        private void takeOut(int i) {
            size--;
            System.arraycopy(number, i + 1, number, i, size - i);
            System.arraycopy(sent, i + 1, sent, i, size - i);
        }

        /**
         * Sends up to n blocks in an hour, held ones first: how many. Those sent before are marked ahead of
         * the held ones, so that none that was held as this began is taken for one sent long ago.
         */
        int sendSome(int n, int hour, int wait) {
            int fresh = Math.min(n, held());
            int old = 0;
            for (int i = 0; i < size && fresh + old < n; i++) {
                if (sent[i] >= 0 && hour - sent[i] >= wait) {
                    sent[i] = hour;
                    old++;
                }
            }
            int left = fresh;
            for (int i = 0; i < size && left > 0; i++) {
                if (sent[i] < 0) {
                    sent[i] = hour;
                    left--;
                }
            }
            return fresh + old;
        }

        /** Takes out those up to a number that were sent in an hour or ahead of it: how many. */
        int have(int upTo, int hour) {
            int stay = 0;
            for (int i = 0; i < size; i++) {
                boolean goes = number[i] <= upTo && sent[i] >= 0 && sent[i] <= hour;
                if (!goes) {
                    number[stay] = number[i];
                    sent[stay] = sent[i];
                    stay++;
                }
            }
            int gone = size - stay;
            size = stay;
            had += gone;
            return gone;
        }

        /** How many are lost if so many are made: those that were sent go ahead of all that are held. */
        int lostBy(int more) {
            int tooMany = size + more - room;
            return Math.max(0, tooMany - (size - held()));
        }
    }

    /** The orders to a craft; gone is the hour in which one went out first, -1: it did not. */
    private static final class Orders {
        private static final int WAITING = 0;
        private static final int MADE = 1;
        private static final int LATE = 2;

        int size;
        final int[] sent = new int[ORDERS];
        final int[] resent = new int[ORDERS];
        final int[] last = new int[ORDERS];
        final int[] gone = new int[ORDERS];
        final int[] state = new int[ORDERS];
        final int[] doneIn = new int[ORDERS];

        void become(Orders other) {
            size = other.size;
            System.arraycopy(other.sent, 0, sent, 0, ORDERS);
            System.arraycopy(other.resent, 0, resent, 0, ORDERS);
            System.arraycopy(other.last, 0, last, 0, ORDERS);
            System.arraycopy(other.gone, 0, gone, 0, ORDERS);
            System.arraycopy(other.state, 0, state, 0, ORDERS);
            System.arraycopy(other.doneIn, 0, doneIn, 0, ORDERS);
        }

        int add(int hour, int lastHour) {
            sent[size] = hour;
            resent[size] = -1;
            last[size] = lastHour;
            gone[size] = -1;
            state[size] = WAITING;
            doneIn[size] = -1;
            size++;
            return size - 1;
        }

        boolean canGoAgain(int i, int hour) {
            return resent[i] < 0 && sent[i] != hour && state[i] == WAITING;
        }

        void goOut(int hour) {
            for (int i = 0; i < size; i++) {
                if (gone[i] < 0 && (sent[i] == hour || resent[i] == hour)) {
                    gone[i] = hour;
                }
            }
        }

        /** One that waits holds back all with greater numbers. */
        void settle(int hour, int far) {
            boolean free = true;
            for (int i = 0; i < size; i++) {
                if (state[i] == WAITING) {
                    boolean there = gone[i] >= 0 && gone[i] + far <= hour;
                    if (there && free) {
                        state[i] = MADE;
                        doneIn[i] = hour;
                    } else if (last[i] <= hour) {
                        state[i] = LATE;
                    } else {
                        free = false;
                    }
                }
            }
        }
    }

    /** A craft's table of states for days of silence. */
    private static final class Silence {
        final int[] next = new int[STATES];
        int heard;

        void begin() {
            heard = 0;
            for (int s = 0; s < STATES; s++) {
                next[s] = s;
            }
        }

        void become(Silence other) {
            heard = other.heard;
            System.arraycopy(other.next, 0, next, 0, STATES);
        }

        int setState(int s, int to, boolean isHeard) {
            int was = next[s];
            next[s] = to;
            heard = isHeard ? heard | 1 << s : heard & ~(1 << s);
            return was;
        }

        /** Days from a state until one that is heard; -1: as many days as there are states lead round only. */
        int daysFrom(int s) {
            int at = s;
            for (int days = 0; days < STATES; days++) {
                if ((heard >> at & 1) == 1) {
                    return days;
                }
                at = next[at];
            }
            return -1;
        }

        int neverHeard() {
            int never = 0;
            for (int s = 0; s < STATES; s++) {
                if (daysFrom(s) < 0) {
                    never |= 1 << s;
                }
            }
            return never;
        }
    }

    /** Cells with odds, and as bits those that were looked into. */
    private static final class Search {
        final int[] odds = new int[CELLS];
        long looked;

        void become(Search other) {
            looked = other.looked;
            System.arraycopy(other.odds, 0, odds, 0, CELLS);
        }

        int setOdds(int cell, int v) {
            int was = odds[cell];
            odds[cell] = v;
            looked &= ~(1L << cell);
            return was;
        }

        int lookNext() {
            int best = bestBut(looked);
            if (best >= 0) {
                looked |= 1L << best;
            }
            return best;
        }

        int left() {
            int found = 0;
            for (int i = 0; i < CELLS; i++) {
                if (isOpen(i, looked) && odds[i] > 0) {
                    found++;
                }
            }
            return found;
        }

        /** How many looks bring v hundredths of what is left; -1: nothing is left. */
        int looksFor(int v) {
            int all = oddsLeft();
            int sum = 0;
            long seen = looked;
            for (int looks = 1; looks <= CELLS; looks++) {
                int best = bestBut(seen);
                if (best < 0) {
                    return -1;
                }
                seen |= 1L << best;
                sum += odds[best];
                if (sum * 100 >= all * v) {
                    return looks;
                }
            }
            return -1;
        }

        private int oddsLeft() {
            int all = 0;
            for (int i = 0; i < CELLS; i++) {
                if (isOpen(i, looked)) {
                    all += odds[i];
                }
            }
            return all;
        }

        private int bestBut(long seen) {
            int best = -1;
            int most = 0;
            for (int i = 0; i < CELLS; i++) {
                if (isOpen(i, seen) && odds[i] > most) {
                    best = i;
                    most = odds[i];
                }
            }
            return best;
        }

        private static boolean isOpen(int cell, long seen) {
            return (seen >> cell & 1L) == 0L;
        }
    }

    /** An asking; dish and start are -1 while it waits. */
    private static final class Asking {
        int kind;
        int craft;
        int n;
        int from;
        int to;
        int worth;
        int state;
        int dish;
        int start;

        void begin(int[] one) {
            kind = one[Text.KIND_AT];
            craft = one[Text.CRAFT_AT];
            n = one[Text.N_AT];
            from = one[Text.FROM_AT];
            to = one[Text.TO_AT];
            worth = one[Text.WORTH_AT];
            waitAgain();
        }

        void become(Asking other) {
            kind = other.kind;
            craft = other.craft;
            n = other.n;
            from = other.from;
            to = other.to;
            worth = other.worth;
            state = other.state;
            dish = other.dish;
            start = other.start;
        }

        void waitAgain() {
            state = WAITS;
            dish = -1;
            start = -1;
        }

        void planOn(int newDish, int hour) {
            state = PLANNED;
            dish = newDish;
            start = hour;
        }

        int end() {
            return start + n;
        }

        boolean isOf(int wanted) {
            int k = kind;
            for (int depth = 0; depth < UNDER.length && k >= 0; depth++) {
                if (k == wanted) {
                    return true;
                }
                k = UNDER[k];
            }
            return false;
        }

        /** What it weighs with a worth, which need not be its own; far is that of its craft. */
        int weightWith(int v, int far) {
            int heard = v + 2 * n;
            int both = v + v / 2;
            switch (kind) {
                case HEAR_KIND: return heard;
                case SHARED_KIND: return heard + 5;
                case ARRAY_KIND: return 2 * heard;
                case BOTH_KIND: return both;
                case FAR_KIND: return both + far;
                default: return v;
            }
        }
    }

    /** THE TAPE, and what is read from it: up to four ones, each a row of six numbers. */
    private static final class Text {
        static final int KIND_AT = 0;
        static final int CRAFT_AT = 1;
        static final int N_AT = 2;
        static final int FROM_AT = 3;
        static final int TO_AT = 4;
        static final int WORTH_AT = 5;
        private static final int PARTS = 6;

        private static final String WORDS = "track,send,hear,both,far,shared,array,c,n,from,to,worth,";
        private static final int C_WORD = 7;
        private static final int N_WORD = 8;
        private static final int FROM_WORD = 9;
        private static final int TO_WORD = 10;
        private static final int WORTH_WORD = 11;

        private static final int END = 0;
        private static final int WORD = 1;
        private static final int NUMBER = 2;
        private static final int SEMICOLON = 3;
        private static final int NOTHING = 4;

        final int[] bytes = new int[TAPE];
        int length;
        final int[][] read = new int[ONES][PARTS];
        int ones;
        private int at;
        private int begin;
        private int sort;
        private int value;

        int append(int four, int n) {
            for (int i = n - 1; i >= 0; i--) {
                bytes[length] = four >> 8 * i & 255;
                length++;
            }
            return length;
        }

        int clear() {
            int was = length;
            length = 0;
            return was;
        }

        /** Reads the whole tape: the place of the fault, -1 if there is none. */
        int readAll(int crafts) {
            at = 0;
            ones = 0;
            for (int i = 0; i < ONES; i++) {
                if (!readOne(read[i], crafts)) {
                    return begin;
                }
                ones++;
                if (sort == END) {
                    return -1;
                }
                if (sort != SEMICOLON) {
                    return begin;
                }
            }
            return begin;
        }

        /** Reads one asking and what stands behind it; if false, the fault is where the last piece begins. */
        private boolean readOne(int[] one, int crafts) {
            next();
            if (sort != WORD || value > ARRAY_KIND) {
                return false;
            }
            one[KIND_AT] = value;
            one[WORTH_AT] = 1;
            if (!readPair(C_WORD, 0, crafts - 1)) {
                return false;
            }
            one[CRAFT_AT] = value;
            if (!readPair(N_WORD, 1, 9)) {
                return false;
            }
            one[N_AT] = value;
            if (!readPair(FROM_WORD, 0, 9999)) {
                return false;
            }
            one[FROM_AT] = value;
            if (!readPair(TO_WORD, one[FROM_AT] + one[N_AT], 9999)) {
                return false;
            }
            one[TO_AT] = value;
            next();
            return sort != WORD || value != WORTH_WORD || readWorth(one);
        }

        private boolean readWorth(int[] one) {
            if (!readNumber(0, MOST_WORTH)) {
                return false;
            }
            one[WORTH_AT] = value;
            next();
            return true;
        }

        private boolean readPair(int word, int least, int most) {
            next();
            return sort == WORD && value == word && readNumber(least, most);
        }

        private boolean readNumber(int least, int most) {
            next();
            return sort == NUMBER && value >= least && value <= most;
        }

        /** Goes to the next piece: where it begins, of what sort it is, and its word or number. */
        private void next() {
            while (at < length && bytes[at] == ' ') {
                at++;
            }
            begin = at;
            if (at >= length) {
                sort = END;
            } else if (isLetter(at)) {
                nextWord();
            } else if (isDigit(at)) {
                nextNumber();
            } else {
                sort = bytes[at] == ';' ? SEMICOLON : NOTHING;
                at++;
            }
        }

        private void nextWord() {
            while (at < length && isLetter(at)) {
                at++;
            }
            value = wordBetween(begin, at);
            sort = value < 0 ? NOTHING : WORD;
        }

        private void nextNumber() {
            value = 0;
            while (at < length && isDigit(at)) {
                value = Math.min(value * 10 + bytes[at] - '0', 99999);
                at++;
            }
            sort = at - begin > 4 ? NOTHING : NUMBER;
        }

        /** Which of the words stands on the tape from one place to another; -1: none. */
        private int wordBetween(int from, int to) {
            int word = 0;
            int behind = from;
            boolean same = true;
            for (int i = 0; i < WORDS.length(); i++) {
                char c = WORDS.charAt(i);
                if (c != ',') {
                    same = same && behind < to && bytes[behind] == c;
                    behind++;
                } else if (same && behind == to) {
                    return word;
                } else {
                    word++;
                    behind = from;
                    same = true;
                }
            }
            return -1;
        }

        private boolean isLetter(int i) {
            return bytes[i] >= 'a' && bytes[i] <= 'z';
        }

        private boolean isDigit(int i) {
            return bytes[i] >= '0' && bytes[i] <= '9';
        }
    }

    /** Finds THE PLAN of askings that it looks at, and keeps it till it plans again. */
    private static final class Planner {
        int size;
        int bestWeight;
        private int bestUsed;
        private final int[] asked = new int[LOOKED_AT];
        private final int[] weights = new int[LOOKED_AT];
        private final int[] row = new int[LOOKED_AT];
        private final int[] starts = new int[LOOKED_AT];
        private final int[] bestRow = new int[LOOKED_AT];
        private final int[] bestStarts = new int[LOOKED_AT];
        /** By places: what those from there on that can stand weigh, and how many of them weigh anything. */
        private final int[] restWeight = new int[LOOKED_AT + 1];
        private final int[] restHeavy = new int[LOOKED_AT + 1];
        /** By dishes: the end of the last track there, -1 if there is none. */
        private final int[] ends = new int[DISHES];

        void planWaiting(World w, int but) {
            lookAtWaiting(w, but);
            solve(w);
        }

        void planWithWorth(World w, int asking, int worth) {
            lookAtWaiting(w, -1);
            int i = placeOf(asking);
            if (i >= 0) {
                weights[i] = w.weightOf(asking, worth);
            }
            solve(w);
        }

        /** The plan of two alone, by numbers; second -1: of the first alone. */
        void planPair(World w, int first, int second) {
            size = 0;
            lookAt(w, first);
            if (second >= 0) {
                lookAt(w, second);
            }
            solve(w);
        }

        void lookAtWaiting(World w, int but) {
            size = 0;
            for (int i = 0; i < w.askingCount && size < LOOKED_AT; i++) {
                if (i != but && w.askings[i].state == WAITS) {
                    lookAt(w, i);
                }
            }
        }

        private void lookAt(World w, int asking) {
            asked[size] = asking;
            weights[size] = w.weightOf(asking, w.askings[asking].worth);
            size++;
        }

        private void solve(World w) {
            findEnds(w);
            findRest(w);
            bestWeight = -1;
            bestUsed = 0;
            tryFrom(w, 0, 0, 0);
        }

        private void findRest(World w) {
            restWeight[size] = 0;
            restHeavy[size] = 0;
            for (int i = size - 1; i >= 0; i--) {
                boolean heavy = weights[i] > 0 && canStand(w, i);
                restWeight[i] = restWeight[i + 1] + (heavy ? weights[i] : 0);
                restHeavy[i] = restHeavy[i + 1] + (heavy ? 1 : 0);
            }
        }

        /** Others ahead of it would only put it off: what can't stand behind none of them never can. */
        private boolean canStand(World w, int i) {
            for (int d = 0; d < w.dishCount; d++) {
                if (startOn(w, i, d) >= 0) {
                    return true;
                }
            }
            return false;
        }

        private void findEnds(World w) {
            for (int d = 0; d < DISHES; d++) {
                ends[d] = -1;
            }
            for (int i = 0; i < w.askingCount; i++) {
                Asking a = w.askings[i];
                if ((a.state == PLANNED || a.state == RUNS) && a.dish >= 0) {
                    ends[a.dish] = Math.max(ends[a.dish], a.end());
                }
            }
        }

        /** Rows are tried in their order, so that only one that is better takes the place of another. */
        private void tryFrom(World w, int i, int weight, int used) {
            if (!canBeBetter(i, weight, used)) {
                return;
            }
            if (i >= size) {
                keepRow(weight, used);
                return;
            }
            for (int d = 0; d < w.dishCount; d++) {
                int start = startOn(w, i, d);
                if (start >= 0) {
                    int end = ends[d];
                    row[i] = d;
                    starts[i] = start;
                    ends[d] = start + w.askings[asked[i]].n;
                    tryFrom(w, i + 1, weight + weights[i], used + 1);
                    ends[d] = end;
                }
            }
            row[i] = -1;
            starts[i] = -1;
            tryFrom(w, i + 1, weight, used);
        }

        /** The most weight that can still be had needs all of the rest that weigh anything. */
        private boolean canBeBetter(int i, int weight, int used) {
            int most = weight + restWeight[i];
            return most > bestWeight || most == bestWeight && used + restHeavy[i] < bestUsed;
        }

        private void keepRow(int weight, int used) {
            bestWeight = weight;
            bestUsed = used;
            System.arraycopy(row, 0, bestRow, 0, size);
            System.arraycopy(starts, 0, bestStarts, 0, size);
        }

        /** The hour in which the asking at place i would begin on a dish; -1: it can't stand there. */
        private int startOn(World w, int i, int dish) {
            Dish d = w.dishes[dish];
            if (d.broken) {
                return -1;
            }
            Asking a = w.askings[asked[i]];
            int first = Math.max(a.from, w.hour);
            if (ends[dish] >= 0) {
                first = Math.max(first, ends[dish] + d.turn);
            }
            int start = w.crafts[a.craft].firstUp(d.place, first, a.n);
            return start >= 0 && start + a.n <= a.to ? start : -1;
        }

        /** What a row of dishes for those that are looked at weighs; -1: they can't stand so. */
        int weightOfRow(World w, int[] dishes) {
            findEnds(w);
            int weight = 0;
            for (int i = 0; i < size && i < dishes.length; i++) {
                int d = dishes[i];
                if (d >= 0 && d < w.dishCount) {
                    int start = startOn(w, i, d);
                    if (start < 0) {
                        return -1;
                    }
                    ends[d] = start + w.askings[asked[i]].n;
                    weight += weights[i];
                }
            }
            return weight;
        }

        int dishOf(int asking) {
            int i = placeOf(asking);
            return i < 0 ? -1 : bestRow[i];
        }

        int startOf(int asking) {
            int i = placeOf(asking);
            return i < 0 ? -1 : bestStarts[i];
        }

        /** The askings that have a dish in the plan, as a set. */
        int inPlan() {
            int set = 0;
            for (int i = 0; i < size; i++) {
                if (bestRow[i] >= 0) {
                    set |= 1 << asked[i];
                }
            }
            return set;
        }

        int holdIn(World w) {
            for (int i = 0; i < size; i++) {
                if (bestRow[i] >= 0) {
                    w.askings[asked[i]].planOn(bestRow[i], bestStarts[i]);
                }
            }
            return bestUsed;
        }

        private int placeOf(int asking) {
            for (int i = 0; i < size; i++) {
                if (asked[i] == asking) {
                    return i;
                }
            }
            return -1;
        }
    }

    /** A row of numbers of so many bits; bits 0: it is missing. */
    private static final class Sheet {
        int bits;
        int size;
        final int[] numbers = new int[NUMBERS];

        boolean isMissing() {
            return bits == 0;
        }

        int begin(int newBits, int n) {
            bits = newBits;
            size = newBits == 0 ? 0 : n;
            for (int i = 0; i < NUMBERS; i++) {
                numbers[i] = 0;
            }
            return size;
        }

        void set(int i, int v) {
            int unused = 32 - bits;
            numbers[i] = v << unused >> unused;
        }

        boolean hasRange(int from, int n) {
            return from >= 0 && n >= 0 && n <= size && from <= size - n;
        }
    }
}
