"""Compares Pagedocument with tools/model.py by random runs of calls.

python3 tools/fuzz.py FIRST BEHIND CALLS [MODE]           compares the runs of these seeds (MODE 0 to 5; without: by seed)
python3 tools/fuzz.py FIRST BEHIND CALLS MODE record FILE writes the runs with the model's answers into a file
"""
import os, random, subprocess, sys, tempfile
HERE = os.path.dirname(os.path.abspath(__file__))
sys.path.insert(0, HERE)
from model import *
INV={v:k for k,v in WORDS.items()}
def tosay(t):
    """codes of a text, using words sometimes"""
    cs=[300]; i=0
    while i<len(t):
        for w,c in INV.items():
            if t.startswith(w,i): cs.append(c); i+=len(w); break
        else: cs.append(ord(t[i])); i+=1
    while len(cs)%6: cs.append(-1)
    return [('say',cs[k:k+6]) for k in range(0,len(cs),6)]
R=random
def sp(): return R.choice(['']*8+[' ',' ','\n','  '])
NAMES=['Kind','Pages','Kids','Count','Box','Turn','Forms','Parts','Filter','Notes','Lines','Fields','At','Say','Deep','Title','To','Most','Value','Len','A','B','F','Z','Ab','Root','Lock','Prev','Code','Lets','Size']
def val(d=0,obj=8):
    k=R.random()
    if d>=5: k*=0.7
    if k<.2: return str(R.choice([0,1,2,3,5,-1,-3,9999,-9999,20,40,41,4]))
    if k<.3: return '%d R'%R.randint(1,obj)
    if k<.4: return '/'+R.choice(['Page','Tree','Form','Root','Pack','Hex','Run','Back','A','B'])
    if k<.5: return '('+R.choice(['','a','ab','b','c','x\\)y','\\\\','hello ~~~'])+')'
    if k<.55: return R.choice(['null','true','false'])
    if k<.6: return R.choice(['007 R','61 R','0 R','12345','-','/Abcdefg','(a(b)','tru','nul','[1','<</A','3  R','3R','-0','0012'])
    if k<.8: return '['+sp()+''.join(val(d+1,obj)+R.choice([' ',' ',' ','','\n']) for _ in range(R.choice([0,1,2,3,4,4,12,13]) if d<2 else R.randint(0,3)))+']'
    return book(d,obj)
def book(d=0,obj=8,fix=None):
    e=[]
    for _ in range(R.choice([0,1,2,3,3,4,5,9,10,11]) if d<2 else R.randint(0,3)): e.append('/'+R.choice(NAMES)+' '+val(d+1,obj))
    if fix: e+=fix
    R.shuffle(e)
    return '<<'+sp()+R.choice([' ',' ','','\n']).join(e)+sp()+'>>'
def row(n,f): return '['+' '.join(f() for _ in range(n))+']'
def nice(obj=9):
    """a value for an object of a document that makes sense"""
    k=R.random()
    ref=lambda:'%d R'%R.randint(1,obj)
    box=lambda:'/Box [%d %d %d %d]'%(R.choice([0,0,-3,5]),R.choice([0,0,-3,5]),R.choice([1,5,8,20,40,41,0]),R.choice([1,5,8,20,40]))
    opt=[]
    if R.random()<.4: opt.append(box())
    if R.random()<.3: opt.append('/Turn %s'%R.choice(['0','1','2','3','4','-1','5','/A','7']))
    if R.random()<.3: opt.append('/Forms <<%s>>'%' '.join('/%s %s'%(R.choice('ABFZ'),ref()) for _ in range(R.randint(0,3))))
    if R.random()<.2: opt.append('/%s %s'%(R.choice(NAMES),val(2,obj)))
    if k<.4:
        if R.random()<.6: opt.append('/Parts '+R.choice([ref(),row(R.randint(0,3),ref)]))
        if R.random()<.3: opt.append('/Notes '+row(R.randint(0,3),lambda:R.choice(['<</At [1 2] /Say (x)>>','<</At [1] /Say (x)>>','3','<</At [1 -2] /Say ()>>','<</Say (a)>>'])))
        if R.random()<.2: opt.append('/Up '+ref())
        return '<</Kind /Page %s>>'%' '.join(opt)
    if k<.75: return '<</Kind /Tree /Kids %s %s>>'%(row(R.randint(0,4),lambda:R.choice([ref(),ref(),ref(),ref(),'5'])),' '.join(opt))
    if k<.9:
        o=[]
        if R.random()<.5: o.append('/Lines '+row(R.randint(0,3),lambda:R.choice(['<</Deep 1 /Title (x) /To %s>>'%ref(),'<</Deep 4 /Title (x) /To 3 R>>','7','<</Deep 0 /Title (y\\)) /To %s>>'%ref()])))
        if R.random()<.5: o.append('/Fields <<%s>>'%' '.join('/%s %s'%(R.choice(['A','B','Z','Ab']),R.choice(['<</Most 3 /Value (x)>>','5','<</Most 5 /Value ()/X 3>>','<</Value (a)>>'])) for _ in range(R.randint(0,3))))
        return '<</Kind /Root /Pages %s %s>>'%(ref(),' '.join(o))
    return val(0,obj)
def prog():
    out=[]
    n=lambda:str(R.choice([0,1,2,3,4,5,8,-1,-3,10]))
    for _ in range(R.randint(1,9)):
        k=R.random()
        if k<.2: out.append('%s %s %s %s B'%(n(),n(),R.choice(['1','2','5','9']),R.choice(['1','2','5','0' if R.random()<.2 else '3'])))
        elif k<.45: out.append('(%s) T'%R.choice(['a','ab','bcd','b','c','abc','x\\)','aaaa','bb','~#','','abcabcabcabc','d']))
        elif k<.55: out.append('%s Z'%R.choice(['1','2','3','9','999','1000' if R.random()<.2 else '4']))
        elif k<.65: out.append('%s %s P'%(n(),n()))
        elif k<.72: out.append('q')
        elif k<.78: out.append('Q')
        elif k<.85: out.append('%s %s %s M'%(R.choice(['1','2','3','9']),n(),n()))
        elif k<.9: out.append('%s %s %s %s C'%(n(),n(),R.choice(['3','5','9']),R.choice(['3','5','9'])))
        elif k<.97: out.append('/%s X'%R.choice('ABFZ'))
        else: out.append(R.choice(['3 R','w','B','1 2','12345','[','(a','/','1 2 3 4 5 6 7 8 9','true','61 R','-','(a)(b) T','q q q q q q q q','q q q q q q q q q','1 M','null']))
    return R.choice([' ','\n',' ']).join(out)
def bodytext(obj=9):
    n=R.choice([R.randint(1,obj),R.randint(1,12)])
    k=R.random()
    ns=R.choice(['%d','%d','%d','0%d'])%n
    if k<.5: v=R.choice([nice,nice,lambda o:val(0,o)])(obj); t='%s o\n%s\nend\n'%(ns,v)
    elif k<.8:
        data=R.choice([prog(),'abc','','~3a','61>','^13'])
        t='%s o\n<<%s/Len %d%s>>\ndata\n%s\nend\n'%(ns,R.choice(['','/Kind /Form ','/Filter /Run ','/Filter /Hex','/Kind /Pack ']),len(data)+R.choice([0]*12+[1,-1]),R.choice([' ','','/A 1']),data)
    else:
        data=''.join('%d %s\n'%(R.randint(1,12),R.choice([nice(obj),val(0,obj)])) for _ in range(R.randint(1,3)))
        f=R.choice(['','/Filter /Run','/Filter [/Back]'])
        if f=='/Filter /Run': data=mk(1,data)
        if f=='/Filter [/Back]': data=mk(2,data)
        t='%s o\n<</Kind /Pack %s/Len %d>>\ndata\n%s\nend\n'%(ns,f,len(data),data)
    return t
def linetext():
    k=R.random()
    if k<.25: return val()
    if k<.5: return nice()
    if k<.75: return prog()
    if k<.85: return bodytext()
    if k<.9: return R.choice(['end\n','table\n','last\n','start\n4\n%E\n','%D1\n','<</Root 1 R>>\n','\n<</Root 3 R /Lock <</Code 3 /Lets 1>>>>\n','3 o\n','data\n',' o\n','p3.0','end','-'])
    if k<.95: return ''.join(R.choice('~^ab019>f 4\n') for _ in range(R.randint(0,60)))
    return ''.join(R.choice(['[','<<','>>',']','1 ','/A ','(',')','\\',' ','\n','null','2 R','-']) for _ in range(R.randint(0,40)))
def craft():
    """a whole file with correct or nearly correct tables"""
    t='%D1\n'; prev=None
    for u in range(R.choice([1,1,1,2,3])):
        ent={}
        objs=sorted(R.sample(range(1,13),R.randint(1,6)))
        if u==0 and R.random()<.85 and 1 not in objs: objs=[1]+objs
        packs=[]
        for n in objs:
            k=R.random()
            if k<.08: ent[n]='-'; continue
            ent[n]=str(len(t)+R.choice([0]*40+[1]))
            if n==1 and R.random()<.8: t+='1 o\n%s\nend\n'%R.choice([nice(),'<</Kind /Root /Pages 2 R>>'])
            elif k<.3:
                mem=[m for m in range(1,16) if m not in objs][:R.randint(1,4)]
                data=''.join('%d %s\n'%(m,nice()) for m in mem)
                f=R.choice(['','/Filter /Run ','/Filter [/Back /Run] '])
                if len(data)>400: f=''; 
                d=data if not f else mk(1,data) if 'Back' not in f else mk(2,mk(1,data))
                if f.startswith('/Filter [/Back /Run]'): d=mk(2,mk(1,data))
                t+='%d o\n<</Kind /Pack /Count 9 %s/Len %d>>\ndata\n%s\nend\n'%(n,f,len(d),d)
                packs.append((n,mem))
            elif k<.5:
                data=prog(); f=R.choice(['','/Kind /Form '])
                t+='%d o\n<<%s/Len %d>>\ndata\n%s\nend\n'%(n,f,len(data),data)
            else: t+='%d o\n%s%s\nend\n'%(n,R.choice(['',' ','\n']),R.choice([nice(),val(0)]))
        for n,mem in packs:
            for i,m in enumerate(mem):
                if m not in ent and R.random()<.9: ent[m]='p%d.%d'%(n,i+R.choice([0]*30+[1]))
        at=len(t)
        lock=R.choice(['']*5+['/Lock <</Code %d /Lets %d>>'%(R.choice([3,10,38,500]),R.randint(0,8)),'/Lock 5'])
        t+='table\n'+''.join('%d %s\n'%(n,ent[n]) for n in sorted(ent))+'last\n'+R.choice(['',' ','\n'])+'<</Root %d R %s %s>>\nstart\n%d\n%%E\n'%(R.choice([1]*9+[2,50]),'' if prev is None else '/Prev %d'%(prev+R.choice([0]*25+[1])),lock,at+R.choice([0]*25+[1]))
        prev=at
    return t
def placetext(f,t):
    """calls that make a FILE this text"""
    out=[('cut',[f,0])] ; 
    return out
class Gen:
    def __init__(s,seed):
        R.seed(seed); s.m=M(); s.calls=[]
    def do(s,name,*a):
        a=[int(x) for x in a]
        b=list(a)
        if name in('filtered',): b[1]=bool(b[1])
        if name=='write': b[2]=bool(b[2])
        if name=='data': b[2]=bool(b[2])
        r=call(s.m,name,b)
        s.calls.append((name+''.join(' %d'%x for x in a),r))
        return r
    def type(s,t):
        for n,c in tosay(t[:200]): s.do(n,*c)
    def file(s,f,t):
        s.do('cut',f,0) if s.m.files[f]=='' else s.do('cut',f,0)
        for k in range(0,len(t),200):
            s.type(t[k:k+200]); s.do('put',f,len(s.m.files[f]))
    def doc(s): return R.choice([0,0,0,1])
    def page(s,d):
        n=len(s.m.docs[d].pages())
        return R.choice([-1,n,0]) if n==0 or R.random()<.05 else R.randrange(n)
    def op(s):
        m=s.m; d=s.doc(); do=s.do
        o=R.choice([R.randint(1,10),R.randint(1,10),R.randint(0,61)])
        k=R.randrange(62)
        if R.random()<.02: d=R.choice([-1,2]); p=0
        else: p=s.page(d)
        f=R.choice([0,1,2,3]) if R.random()<.98 else R.choice([-1,4])
        xy=lambda:R.choice([0,1,2,3,5,-2,-99,99,100] if R.random()<.1 else [0,1,2,3,5,-2,4])
        wh=lambda:R.choice([0,1,40,41,99,100] if R.random()<.1 else [1,2,3,5,9,12])
        if k<6: s.type(linetext())
        elif k==6: do('fault'); do('written')
        elif k==7:
            for q in range(3): do('filtered',q,0); do('filtered',q,1)
        elif k==8: do('write',d,f,R.randint(0,1)); 
        elif k==9: do('write',d,f,R.randint(0,1)); do('update',d)
        elif k in(10,11): do('update',d)
        elif k in(12,13): do('read',f,d)
        elif k==14: do('repair',f,d)
        elif k==15: do('faultOf',f)
        elif k==16 and 0<=f<4 and m.files[f]:
            for _ in range(R.randint(1,3)): do('hurt',f,R.randrange(len(m.files[f])),R.choice([10,32,48,49,57,40,65,R.randint(32,126)]))
            do('faultOf',f); do('repair',f,R.randint(0,1)) if R.random()<.3 else None
        elif k==17 and 0<=f<4 and R.random()<.3: do('cut',f,R.choice([0,len(m.files[f]),R.randint(0,len(m.files[f])),len(m.files[f])+1]))
        elif k==18 and 0<=f<4: do('put',f,R.choice([0,4,len(m.files[f]),R.randint(0,len(m.files[f]))])); do('faultOf',f)
        elif k==19: do('copyFile',f,R.randint(0,3))
        elif k==20 and 0<=f<4: do('text',f,R.randint(0,len(m.files[f]))); do('place',f,R.randint(0,len(m.files[f])))
        elif k==21: do('fresh',d) if R.random()<.3 else do('sweep',d)
        elif k in(22,23,24,25): s.type(nice()); do('define',d,o)
        elif k==26: s.type(linetext()); do('stream',d,o)
        elif k==27: s.type(prog()); do('stream',d,o)
        elif k==28: do('drop',d,o) if R.random()<.5 else None
        elif k==29: do('filter',d,o,R.choice([-1,0,1,2,1,2]),R.choice([-1,0,1,2,-1]),R.choice([-1,-1,1,2,3]))
        elif k==30:
            for w in range(9): do('ofPage',d,p,w)
        elif k==31: do('mark',d,p,R.randint(0,3)); do('content',d,p)
        elif k==32:
            for r in range(R.randint(1,6)): do('drawn',d,p,R.randint(-1,12))
        elif k==33:
            for _ in range(4): do('find',d,p,R.choice([0,1,2,3,5,6,27,R.randint(0,999)]),R.randint(0,2))
        elif k in(34,35): do('newPage',d,R.choice([0,1,2,p]),wh(),wh())
        elif k==36: do('movePage',d,p,s.page(d) if d in(0,1) else 0)
        elif k==37: do('dropPage',d,p)
        elif k==38: do('turnPage',d,p,R.randint(0,4) if R.random()<.2 else R.randint(0,3))
        elif k==39: do('boxPage',d,p,xy(),xy(),wh(),wh())
        elif k==40: do('addPart',d,p)
        elif k in(41,42): do('addText',d,p,xy(),xy(),R.choice([1,2,3,9,10,0] if R.random()<.2 else [1,2]),R.choice([0,1,2,27,999,R.randint(0,999)]))
        elif k==43: do('addBox',d,p,xy(),xy(),wh(),wh())
        elif k in(44,45): s.type(prog()); do('form',d,p,R.choice([0,1,5,25,R.randint(-1,26)]))
        elif k==46: s.type(prog()); do('addPart',d,p)
        elif k==47: do('black',d,p,xy(),xy(),wh(),wh())
        elif k==48: do('merge',d)
        elif k==49: a,b=p,s.page(d) if d in(0,1) else 0; do('split',d,min(a,b) if R.random()<.9 else max(a,b),max(a,b))
        elif k==50: do('note',d,p,xy(),xy(),R.randint(-1,1000) if R.random()<.1 else R.randint(0,999)); do('noteOf',d,p,R.randint(0,2))
        elif k==51: do('title',d,R.randint(0,3),R.randint(0,999),p); do('lineOf',d,R.randint(-1,3))
        elif k==52: do('field',d,R.choice([0,1,25,R.randint(-1,26)]),R.randint(0,10)); do('valueOf',d,R.choice([0,1,25]))
        elif k==53: l=R.choice([0,1,25]); do('fill',d,l,R.choice([0,1,27,999])); do('valueOf',d,l)
        elif k==54 and R.random()<.3: do('lock',d,R.choice([-1,-1,0,1,5,999,1000]),R.randint(0,8) if R.random()<.1 else R.randint(0,7))
        elif k==55: do('open',d,R.choice([0,1,5,102,999,97]))
        elif k==56: do('undo')
        elif k==57:
            for w in range(-1,11): do('ofDoc',d,w)
        elif k==58: do('alike'); do('house',R.randint(-1,4)); do('knock')
        elif k==59: do('isSound')
        elif k==60: do('object',d,o); do('data',d,o,0); do('data',d,o,1); do('isReached',d,o)
        elif k==61: do('digest')
    def op2(s):
        """guided: pages that are there, streams that are there"""
        m=s.m; do=s.do; d=R.choice([0,0,0,1]); D=m.docs[d]
        ps=D.pages(); np_=len(ps)
        if np_==0 or (np_<6 and R.random()<.1):
            if R.random()<.5 or D.root not in D.o:
                if D.root not in D.o or R.random()<.2: do('fresh',d)
                do('newPage',d,R.randint(0,len(m.docs[d].pages())),R.choice([5,8,12,40]),R.choice([5,8,12,40]))
            else: do('merge',d)
            return
        p=R.randrange(np_); k=R.randrange(40)
        xy=lambda:R.choice([0,1,2,3,5,-2,4,7]); wh=lambda:R.choice([1,2,3,5,9,12])
        streams=[o for o in D.o if D.o[o].stream()]
        if k<4: do('addText',d,p,xy(),xy(),R.choice([1,1,2,3]),R.choice([0,1,2,5,27,6,R.randint(0,999)]))
        elif k<6: do('addBox',d,p,xy(),xy(),wh(),wh())
        elif k<9: s.type(prog()); do('addPart',d,p)
        elif k<12: s.type(prog()); do('form',d,p,R.choice([0,1,5,25]))
        elif k<14: do('black',d,p,xy(),xy(),R.choice([1,1,2,3]),R.choice([1,1,2,3]))
        elif k<16 and streams:
            o=R.choice(streams); do('filter',d,o,R.choice([0,1,2,1,2]),R.choice([-1,0,1,2,-1]),-1); do('data',d,o,0); do('data',d,o,1)
        elif k==16:
            for w in range(9): do('ofPage',d,p,w)
        elif k==17:
            for w in range(R.randint(1,25)): do('mark',d,p,w)
        elif k==18:
            for r in range(R.randint(1,13)): do('drawn',d,p,r)
        elif k==19:
            for _ in range(5): do('find',d,p,R.choice([0,1,2,3,5,6,27,0,1]),R.choice([0,0,1,2]))
            ms=D.paint(ps[p])[0]
            for i,x in enumerate(ms):
                if x[0] in 'abcd':
                    j=i; w=0
                    while j<len(ms) and ms[j][0] in 'abcd' and j<i+4: w=w*4+'abcd'.index(ms[j][0]); j+=1
                    if w<1000: do('find',d,p,w,0)
        elif k==20: do('turnPage',d,p,R.randint(0,3))
        elif k==21: do('boxPage',d,p,xy(),xy(),R.choice([5,8,20]),R.choice([5,8,20]))
        elif k==22: do('movePage',d,p,R.randrange(np_))
        elif k==23: do('merge',d) if R.random()<.5 else do('split',d,min(p,R.randrange(np_)),p)
        elif k==24: do('note',d,p,xy(),xy(),R.randint(0,999)); do('noteOf',d,p,0)
        elif k==25: do('title',d,R.randint(0,3),R.randint(0,999),p); do('lineOf',d,R.randint(0,3))
        elif k==26: l=R.randint(0,25); do('field',d,l,R.randint(1,9)); do('fill',d,l,R.choice([0,1,27,999])); do('valueOf',d,l)
        elif k==27: f=R.randint(0,3); do('write',d,f,R.randint(0,1)); do('faultOf',f)
        elif k==28: do('update',d)
        elif k==29: f=R.randint(0,3); do('read',f,R.choice([d,1-d])) if m.files[f] else None
        elif k==30: f=R.randint(0,3); do('repair',f,1-d) if m.files[f] else None
        elif k==31: do('undo') if m.past else None
        elif k==32: do('content',d,p); do('alike')
        elif k==33 and R.random()<.3: do('sweep',d)
        elif k==34 and R.random()<.3: do('dropPage',d,p)
        elif k==35:
            # nested trees by hand
            if R.random()<.4:
                ks=[x[0] for x in ps]; R.shuffle(ks)
                fr=[o for o in range(1,61) if o not in D.o]
                if len(fr)>=2:
                    h=R.randint(0,len(ks))
                    inh=lambda:R.choice(['','/Box [0 0 6 6]','/Turn %d'%R.randint(-2,6),'/Forms <</A %d R>>'%(R.choice(streams) if streams else 1)])
                    for o,part in ((fr[0],ks[:h]),(fr[1],ks[h:]+[fr[0]])):
                        s.type('<</Kind /Tree /Kids [%s] %s>>'%(' '.join('%d R'%q for q in part),inh())); do('define',d,o)
                    s.type('<</Kind /Root /Pages %d R>>'%fr[1]); do('define',d,D.root)
        elif k==36 and R.random()<.3: do('lock',d,R.choice([-1,5]),R.randint(0,7)); do('open',d,5)
        elif k==37: do('digest')
        elif k==38:
            q=[o for o in D.o if D.o[o].pure() is not None]
            if q:
                o=R.choice(q); b=dict(D.o[o].v[1]); nm=R.choice(NAMES[:20]); 
                try: v=parse(nice(),0)[0] if R.random()<.3 else parse(R.choice(['3 R','5','[1 2]','<</A 5 R>>','/A','[0 0 9 9]','-1','(x)','%d R'%o]),0)[0]
                except Fault: return
                if len(b)<10 or nm in b:
                    b[nm]=v; t=wr(('b',b))
                    if len(t)<=200: s.type(t); do('define',d,o)
        elif k==39: do('ofDoc',d,R.randint(0,9)); do('isSound')
    def run(s,n,mode):
        calls=n
        if mode==1:
            for f in range(2):
                t=craft(); 
                if R.random()<.4:
                    for _ in range(R.randint(1,4)):
                        q=R.randrange(len(t)); t=t[:q]+R.choice(['\n',' ','0','1','(',R.choice(t)])+t[q+R.randint(0,2):]
                s.file(f,t)
                s.do('faultOf',f); s.do('read',f,f); s.do('digest')
                s.do('repair',f,1-f) if R.random()<.5 else None
        if mode==2:
            for f in range(2):
                s.do('cut',f,0)
                t=''.join(R.choice([bodytext,bodytext,bodytext,lambda:R.choice(['junk\n','\n','<</Root 3 R>>\n',' <</Root 1 R>>\n','(','end\n','<<\n/Root 2 R>>\n'])])() for _ in range(R.randint(1,12)))
                s.file(f,t); s.do('repair',f,f); s.do('digest')
        if mode==5:
            # texts near to the limits: 6000 of a FILE, 500 of DATA, 60 OBJECTS, 12 PAGES, 24 MARKS, 64 FORMS
            t='1 o\n<</Kind /Root /Pages 2 R>>\nend\n'; kids=[]; n=3
            goal=R.choice([1500,3000,5000,5900])
            while len(t)<goal and n<=R.choice([20,50,60]):
                k=R.random()
                if k<.3 and len(kids)<R.choice([5,12,12,13]):
                    kids.append(n); t+='%d o\n<</Kind /Page /Parts %s /Forms <<%s>>%s>>\nend\n'%(n,row(R.randint(0,12),lambda:'%d R'%R.randint(3,60)),' '.join('/%s %d R'%(x,R.randint(3,40)) for x in 'ABFZ'),R.choice(['',' /Up 2 R',' /Turn 3']))
                elif k<.5:
                    d=' '.join(R.choice(['/A X','/B X','/F X','/Z X','0 0 1 1 B','(ab) T','q','Q','1 1 1 M']) for _ in range(R.randint(1,40)))
                    t+='%d o\n<</Kind /Form /Len %d>>\ndata\n%s\nend\n'%(n,len(d),d)
                elif k<.7:
                    d=R.choice(['~9a'*R.randint(50,56)+'a'*R.randint(0,6),'^00'+'^19'*R.randint(50,58),'3'*R.choice([400,499,500]),'~9(~9a~9)'*R.randint(5,18)+' T'])[:500]
                    t+='%d o\n<<%s/Len %d>>\ndata\n%s\nend\n'%(n,R.choice(['','/Filter /Run ','/Filter /Back ','/Filter [/Run /Back]']),len(d),d)
                elif k<.85:
                    v='['+R.choice(['','<</A 1 /B [3 R 4 R]>> ','(abc) '])+' '.join(R.choice(['(%s)'%('x'*40),'%d R'%R.randint(1,60),'[1 2 3 4 5 6 7 8 9 10 11 12]','<</A %d R/B 5>>'%R.randint(1,60)]) for _ in range(R.randint(1,11)))+']'
                    t+='%d o\n%s\nend\n'%(n,v)
                else:
                    d=''.join('%d %s\n'%(m,nice(60)) for m in R.sample(range(1,61),R.randint(1,4)))
                    if len(d)<=500: t+='%d o\n<</Kind /Pack /Len %d>>\ndata\n%s\nend\n'%(n,len(d),d)
                n+=R.choice([1,1,1,2])
            t+='2 o\n<</Kind /Tree /Kids [%s]>>\nend\n'%' '.join('%d R'%k for k in kids[:12])
            s.file(0,t[:6000]); s.do('repair',0,0); s.do('digest'); s.do('copyFile',1,0); s.do('repair',0,1)
            for _ in range(R.randint(0,6)): s.do('merge',R.randint(0,1))
            s.do('write',0,2,0); s.do('write',1,3,1); s.do('digest')
            calls+=len(s.calls)
        if mode==3:
            d=0
            for _ in range(R.randint(1,4)): s.do('newPage',d,0,R.choice([5,8,12]),R.choice([5,8,12]))
        while len(s.calls)<calls:
            s.op2() if mode in(4,5) or R.random()<.15 else s.op()
        s.do('digest'); s.do('isSound')
        for d in(0,1):
            for o in range(1,16): s.do('object',d,o)
        for f in range(4):
            for a in range(0,len(s.m.files[f])+1,100): s.do('text',f,a)
def runs(a,b,n,mode):
    for seed in range(a,b):
        g=Gen(seed)
        g.run(n,mode if mode>=0 else seed%5)
        yield seed,g.calls
def record(a,b,n,mode,name):
    with open(name,'w') as f:
        for seed,calls in runs(a,b,n,mode):
            f.write('new\n')
            for c,r in calls: f.write(c+' = '+r+'\n')
def compare(a,b,n,mode):
    script=[];want=[];where=[]
    for seed,calls in runs(a,b,n,mode):
        script.append('new'); want.append('new'); where.append((seed,-1))
        for i,(c,r) in enumerate(calls): script.append(c); want.append(r); where.append((seed,i))
    with tempfile.TemporaryDirectory() as out:
        subprocess.check_call(['javac','-d',out,HERE+'/../src/main/java/Pagedocument.java',HERE+'/../src/test/java/RecordedRuns.java'])
        p=subprocess.run(['java','-cp',out,'RecordedRuns','-'],input='\n'.join(script)+'\n',capture_output=True,text=True)
    got=p.stdout.split('\n')
    if p.returncode: print(p.stderr[:2000])
    seen=set();bad=0
    for c,w,x,g in zip(script,want,where,got):
        if w!=g and x[0] not in seen:
            seen.add(x[0]); bad+=1
            if bad<=6: print('seed',x,c,'\n want',w[:300],'\n got ',g[:300])
    print('runs',b-a,'calls',len(script),'answered',len(got)-1,'bad',bad)
    sys.exit(1 if bad or len(got)-1!=len(script) else 0)
if __name__=='__main__':
    v=sys.argv
    if len(v)<4: sys.exit(__doc__)
    mode=int(v[4]) if len(v)>4 else -1
    if len(v)>6 and v[5]=='record': record(int(v[1]),int(v[2]),int(v[3]),mode,v[6])
    else: compare(int(v[1]),int(v[2]),int(v[3]),mode)
